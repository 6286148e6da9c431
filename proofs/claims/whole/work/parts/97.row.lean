/-! rows: sleeping on, breaking -/
theorem overF_eq {to : Nat → Int32} {lv c : Nat} (hc : c < 5) (r : Nat → Int32) : overF to lv c r = upd (upd (upd r (18 + c) (nI 9)) (23 + c) (r (23 + c) + nI 1)) 31 (r 31 + to (5 * lv + c)) := by
  unfold overF
  rw [upd_ne (f := r) (show 23 + c ≠ 18 + c by omega), upd_ne (show 31 ≠ 23 + c by omega), upd_ne (f := r) (show 31 ≠ 18 + c by omega)]
theorem s2F_ne {dp wk r : Nat → Int32} {x k : Nat} (h1 : k ≠ x) (h2 : k ≠ 6 + x) : s2F dp wk x r k = r k := by
  unfold s2F
  split
  · rw [upd_ne h1]
  · rw [upd_ne h2, upd_ne h1]
theorem s2_ne {dp wk r : Nat → Int32} {n k : Nat} (hn : n ≤ 6) (hk : 12 ≤ k) : itN (s2F dp wk) r n k = r k := itN_keep n r (fun i hi r => s2F_ne (by omega) (by omega))
theorem s2_d {dp wk r : Nat → Int32} {n x : Nat} (hn : n ≤ 6) (hx : x < n) : itN (s2F dp wk) r n x = dp x := by
  rw [itN_at n hx r (fun i hi hne r => s2F_ne (by omega) (by omega))]
  unfold s2F
  split
  · rw [upd_eq]
  · rw [upd_ne (by omega), upd_eq]
theorem s2_a {dp wk r : Nat → Int32} {n x : Nat} (hn : n ≤ 6) (hx : x < n) : itN (s2F dp wk) r n (6 + x) = if wk x = 0 then r (6 + x) else nI 1 := by
  rw [itN_at n hx r (fun i hi hne r => s2F_ne (by omega) (by omega))]
  have h1 : itN (s2F dp wk) r x (6 + x) = r (6 + x) := itN_keep x r (fun i hi r => s2F_ne (by omega) (by omega))
  unfold s2F
  split
  · rw [upd_ne (by omega)]; exact h1
  · rw [upd_eq]
section SL
variable {v0 : Nat → Int32} {a : Nat → Nat → Int32} {lv sl cr : Nat} {r : Nat → Int32}
theorem sleepS_28 (hn : sl ≤ 6) : sleepF v0 a lv sl cr r 28 = r 28 + nI 1 := by
  unfold sleepF
  rw [upd_ne (by omega), upd_eq, s2_ne hn (by omega)]
theorem sleep_30 (hn : sl ≤ 6) : sleepF v0 a lv sl cr r 30 = r 30 + nI 1 := by
  unfold sleepF
  rw [upd_eq, upd_ne (by omega), s2_ne hn (by omega)]
theorem sleep_ne (hn : sl ≤ 6) {k : Nat} (hk : 12 ≤ k) (h1 : k ≠ 28) (h2 : k ≠ 30) : sleepF v0 a lv sl cr r k = r k := by
  unfold sleepF
  rw [upd_ne h2, upd_ne h1, s2_ne hn hk]
theorem sleep_d (hn : sl ≤ 6) {x : Nat} (hx : x < sl) : sleepF v0 a lv sl cr r x = dpF v0 a lv sl cr r x := by
  unfold sleepF
  rw [upd_ne (by omega), upd_ne (by omega), s2_d hn hx]
theorem sleep_a (hn : sl ≤ 6) {x : Nat} (hx : x < sl) : sleepF v0 a lv sl cr r (6 + x) = if wkP v0 a lv sl cr r x then nI 1 else r (6 + x) := by
  unfold sleepF
  rw [upd_ne (by omega), upd_ne (by omega), s2_a hn hx]
  unfold wkI
  by_cases h : wkP v0 a lv sl cr r x
  · rw [if_pos h, if_neg (by decide), if_pos h]
  · rw [if_neg h, if_neg h]; exact if_pos rfl
end SL
theorem andn_all : ∀ p q : Fin 64, nI p.val &&& (nI q.val ^^^ (-1)) = nI (p.val &&& (63 ^^^ q.val)) := by decide +kernel
theorem bit63 : ∀ k : Fin 6, Nat.testBit 63 k.val = true := by decide
theorem mkN_andn {P Q : Nat → Bool} {n : Nat} (h : n ≤ 6) : nI (mkN P n) &&& (nI (mkN Q n) ^^^ (-1)) = nI (mkN (fun k => P k && !Q k) n) := by
  rw [andn_all ⟨mkN P n, mkN_64 h⟩ ⟨mkN Q n, mkN_64 h⟩]
  congr 1
  apply Nat.eq_of_testBit_eq
  intro k
  rw [Nat.testBit_and, Nat.testBit_xor, mkN_bit, mkN_bit, mkN_bit]
  by_cases hk : k < n
  · have h1 : Nat.testBit 63 k = true := bit63 ⟨k, by omega⟩
    rw [h1]
    simp [hk]
  · simp [hk]
theorem xor_2 (x : Int32) : (x ^^^ (-1)) ^^^ (-1) = x := by rw [Int32.xor_assoc, Int32.xor_self, Int32.xor_zero]
theorem mkN_all {P : Nat → Bool} {n : Nat} : nI (2 ^ n - 1) &&& nI (mkN P n) = nI (mkN P n) := by
  rw [nx_and]
  congr 1
  apply Nat.eq_of_testBit_eq
  intro k
  rw [Nat.testBit_and, mkN_bit, Nat.testBit_two_pow_sub_one]
  cases decide (k < n) <;> simp
theorem mkN_0 {P : Nat → Bool} : ∀ n, (∀ k, k < n → P k = false) → mkN P n = 0 := by
  intro n
  induction n with
  | zero => intro _; rfl
  | succ n ih => intro h; unfold mkN; rw [if_neg (by rw [h n (Nat.lt_succ_self _)]; decide)]; exact ih (fun k hk => h k (by omega))
abbrev wkB (v0 : Nat → Int32) (a : Nat → Nat → Int32) (lv : Nat) (S : SD) (R : Nat → Int32) : Nat → Bool := fun x => decide (wkP v0 a lv (S.1 24) (S.1 31) R x)
abbrev aslN (S : SD) (R : Nat → Int32) : Nat := mkN (slpB R (nI (S.1 35))) (S.1 24)
theorem nI_lt_s {h n : Nat} (hh : h < 2 ^ 31 - 1) (hn : n < 2 ^ 31) (h1 : nI h + nI 1 < nI n) : nI h < nI n := by
  rw [nI_add] at h1
  have := (nI_ltI (a := h + 1) (b := n) (by omega) hn).mp h1
  exact (nI_ltI (by omega) hn).mpr (by omega)
theorem CNt.sleep {S : SD} {lv : Nat} {a : Nat → Nat → Int32} {tv : Nat → Int32} {ta : Nat → Nat → Int32} (hX : CX S lv a tv ta) {R : Nat → Int32} {nv : Nat → Int32} {na : Nat → Nat → Int32} (hN : CNt S R nv na) (v0 : Nat → Int32) {h : Nat} (hh : R 28 = nI h) (hh2 : h < 2 ^ 31 - 1) {dp : Nat → Int32} (hdp : ∀ j, j < S.1 24 → dp j = dpF v0 a lv (S.1 24) (S.1 31) R j) :
    CNt S (sleepF v0 a lv (S.1 24) (S.1 31) R) (va_up (va_up (va_up nv 0 (R 28 + nI 1)) 2 (R 30 + nI 1)) 4 (if R 28 + nI 1 < tv 4 then nI (2 ^ S.1 24 - 1) &&& (((nI (aslN S R) &&& (nI (mkN (wkB v0 a lv S R) (S.1 24)) ^^^ (-1))) ^^^ (-1)) ^^^ (-1)) else nI 0)) (va_up na 5 dp) := by
  have hsl := hX.sl.2
  obtain ⟨h0, h1, h2, h3, h4, h5, h6⟩ := hN
  have hb : ∀ k, k < S.1 24 → (R 28 + nI 1 < nI (S.1 35)) → slpB (sleepF v0 a lv (S.1 24) (S.1 31) R) (nI (S.1 35)) k = (slpB R (nI (S.1 35)) k && !wkB v0 a lv S R k) := by
    intro k hk hlt
    have hl2 : R 28 < nI (S.1 35) := by rw [hh] at hlt ⊢; exact nI_lt_s hh2 (by have := hX.dw.2.1; omega) hlt
    unfold slpB slp wkB
    rw [sleepS_28 hsl, sleep_a hsl hk]
    by_cases c1 : wkP v0 a lv (S.1 24) (S.1 31) R k
    · rw [if_pos c1, decide_eq_true c1, Bool.not_true, Bool.and_false]
      exact decide_eq_false (fun z => absurd z.1 (by decide))
    · rw [if_neg c1, decide_eq_false c1, Bool.not_false, Bool.and_true]
      exact decide_eq_decide.mpr ⟨fun z => ⟨z.1, hl2⟩, fun z => ⟨z.1, hlt⟩⟩
  refine ⟨(sleepS_28 hsl).symm, h1.trans (sleep_ne hsl (by decide) (by decide) (by decide)).symm, (sleep_30 hsl).symm, h3.trans (sleep_ne hsl (by decide) (by decide) (by decide)).symm, ?_, ?_, ?_⟩
  · show (if R 28 + nI 1 < tv 4 then _ else _) = _
    rw [hX.dw.1]
    by_cases hlt : R 28 + nI 1 < nI (S.1 35)
    · rw [if_pos hlt, xor_2, mkN_andn hsl, mkN_all]
      congr 1
      exact (mkN_congr _ (fun k hk => hb k hk hlt)).symm
    · rw [if_neg hlt, mkN_0 (P := slpB (sleepF v0 a lv (S.1 24) (S.1 31) R) (nI (S.1 35))) _ (fun k hk => by unfold slpB slp; rw [sleepS_28 hsl]; exact decide_eq_false (fun z => hlt z.2))]
  · intro i hi
    exact ⟨(hdp i hi).trans (sleep_d hsl hi).symm, (h5 i hi).2.trans (sleep_ne hsl (by omega) (by omega) (by omega)).symm⟩
  · intro c hc
    exact ⟨(h6 c hc).1.trans (sleep_ne hsl (by omega) (by omega) (by omega)).symm, (h6 c hc).2.trans (sleep_ne hsl (by omega) (by omega) (by omega)).symm⟩
/-! depths on the way -/
def dRw (v0 : Nat → Int32) (a : Nat → Nat → Int32) (lv : Nat) (S : SD) (R : Nat → Int32) (i : Nat) : Nat → Int32 := fun j => if j < i then dpF v0 a lv (S.1 24) (S.1 31) R j else R j
theorem dRw_ge {v0 : Nat → Int32} {a : Nat → Nat → Int32} {lv : Nat} {S : SD} {R : Nat → Int32} {i j : Nat} (h : i ≤ j) : dRw v0 a lv S R i j = R j := if_neg (by omega)
theorem dRw_s {v0 : Nat → Int32} {a : Nat → Nat → Int32} {lv : Nat} {S : SD} {R : Nat → Int32} {i j : Nat} : dRw v0 a lv S R (i + 1) j = if j = i then dpF v0 a lv (S.1 24) (S.1 31) R i else dRw v0 a lv S R i j := by
  unfold dRw
  by_cases h : j = i
  · rw [if_pos (by omega), if_pos h, h]
  · rw [if_neg h]
    by_cases h2 : j < i
    · rw [if_pos h2, if_pos (by omega)]
    · rw [if_neg h2, if_neg (by omega)]
theorem CNt.dR {S : SD} {R : Nat → Int32} {nv : Nat → Int32} {na : Nat → Nat → Int32} (hN : CNt S R nv na) (hsl : S.1 24 ≤ 6) (v0 : Nat → Int32) (a : Nat → Nat → Int32) (lv : Nat) {i : Nat} (hi : i ≤ 6) {dp : Nat → Int32} (hdp : ∀ j, j < S.1 24 → dp j = dRw v0 a lv S R i j) : CNt S (dRw v0 a lv S R i) nv (va_up na 5 dp) := by
  obtain ⟨h0, h1, h2, h3, h4, h5, h6⟩ := hN
  refine ⟨h0.trans (dRw_ge (by omega)).symm, h1.trans (dRw_ge (by omega)).symm, h2.trans (dRw_ge (by omega)).symm, h3.trans (dRw_ge (by omega)).symm, ?_, ?_, ?_⟩
  · rw [h4, mkN_congr (P := slpB (dRw v0 a lv S R i) (nI (S.1 35))) (Q := slpB R (nI (S.1 35))) _ (fun k hk => slp_row (dRw_ge (by omega)) (dRw_ge (by omega)))]
  · intro j hj
    exact ⟨hdp j hj, (h5 j hj).2.trans (dRw_ge (by omega)).symm⟩
  · intro c hc
    exact ⟨(h6 c hc).1.trans (dRw_ge (by omega)).symm, (h6 c hc).2.trans (dRw_ge (by omega)).symm⟩
theorem dR_slp {S : SD} {R : Nat → Int32} {v0 : Nat → Int32} {a : Nat → Nat → Int32} {lv i x : Nat} {dawn : Int32} (hi : i ≤ 6) : slp (dRw v0 a lv S R i) dawn x ↔ slp R dawn x := by unfold slp; rw [dRw_ge (by omega), dRw_ge (by omega)]
theorem dR_aV {S : SD} {R : Nat → Int32} {v0 : Nat → Int32} {a : Nat → Nat → Int32} {lv i : Nat} (hX1 : TxR S lv a) (hs : shpS S) (hlv : lv < 2) (hi : i < S.1 24) (hsl : slp R (nI (S.1 35)) i) {k : Nat} (hk : k < 3) (lo hh : Int32) : aV S lv a (dRw v0 a lv S R i) k (dRw v0 a lv S R i (12 + i)) (bN S (dRw v0 a lv S R i) i) i lo hh = aR a lv (S.1 24) (S.1 31) R k i (plV R k i) lo hh := by
  have h6 := hs.1
  have h5 := hs.2.1
  rw [aV_row (dRw_ge (Nat.le_refl _)) (dRw_ge (by omega)) (fun c hc => dRw_ge (by omega)), bN_row hi (fun k hk => ⟨dRw_ge (by omega), dRw_ge (by omega)⟩) (dRw_ge (by omega)), dRw_ge (by omega)]
  exact (ask_b hX1 hs hlv R hk hi hsl lo hh).symm
/-! breaking -/
theorem fall_ne {p c k : Nat} {r : Nat → Int32} (h : k ≠ 18 + c) : fallF p c r k = r k := by
  unfold fallF
  split
  · rw [upd_ne h]
  · rfl
theorem brk_ne {a : Nat → Nat → Int32} {lv sl cr p k : Nat} {r : Nat → Int32} (h : ∀ c, c < cr → k ≠ 18 + c) : brkF a lv sl cr p r k = r k := by
  unfold brkF
  split
  · exact itN_keep cr r (fun i hi r => fall_ne (h i hi))
  · rfl
theorem falls_at {p c n : Nat} {r : Nat → Int32} : itN (fallF p) r n (18 + c) = r (18 + c) ∨ itN (fallF p) r n (18 + c) = nI 10 := by
  induction n with
  | zero => exact Or.inl rfl
  | succ n ih =>
    show fallF p n (itN (fallF p) r n) (18 + c) = _ ∨ fallF p n (itN (fallF p) r n) (18 + c) = _
    unfold fallF
    split
    · by_cases e : 18 + c = 18 + n
      · rw [e, upd_eq]; exact Or.inr rfl
      · rw [upd_ne e]; exact ih
    · exact ih
theorem brks_at {a : Nat → Nat → Int32} {lv sl cr c n : Nat} {r : Nat → Int32} : itN (brkF a lv sl cr) r n (18 + c) = r (18 + c) ∨ itN (brkF a lv sl cr) r n (18 + c) = nI 10 := by
  induction n with
  | zero => exact Or.inl rfl
  | succ n ih =>
    show brkF a lv sl cr n (itN (brkF a lv sl cr) r n) (18 + c) = _ ∨ brkF a lv sl cr n (itN (brkF a lv sl cr) r n) (18 + c) = _
    generalize itN (brkF a lv sl cr) r n = r2 at ih ⊢
    unfold brkF
    split
    · rcases falls_at (p := n) (c := c) (n := cr) (r := r2) with h | h
      · rw [h]; exact ih
      · exact Or.inr h
    · exact ih
section HR
variable {S : SD} {lv : Nat} {a : Nat → Nat → Int32} {v0 : Nat → Int32} {R : Nat → Int32}
theorem hourS_28 (hs : shpS S) : hourF v0 a lv (S.1 23) (S.1 24) (S.1 31) R 28 = R 28 + nI 1 := by
  have h5 := hs.2.1
  unfold hourF
  rw [itN_keep (k := 28) _ _ (fun i hi r => by unfold outF; exact moves_ne _ (fun c hc => ⟨by omega, by omega, by omega⟩)), itN_keep (k := 28) _ _ (fun i hi r => brk_ne (fun c hc => by omega)), sleepS_28 hs.1]
theorem VR.hour (hs : shpS S) (hr : rngS S) (h : VR S R) : VR S (hourF v0 a lv (S.1 23) (S.1 24) (S.1 31) R) := by
  have h6 := hs.1
  have h5 := hs.2.1
  have h1 : VR S (itN (brkF a lv (S.1 24) (S.1 31)) (sleepF v0 a lv (S.1 24) (S.1 31) R) (S.1 23)) := by
    intro c hc
    rcases brks_at (a := a) (lv := lv) (sl := S.1 24) (cr := S.1 31) (c := c) (n := S.1 23) (r := sleepF v0 a lv (S.1 24) (S.1 31) R) with e | e
    · rw [e, sleep_ne h6 (by omega) (by omega) (by omega)]; exact h c hc
    · rw [e]; exact Or.inr (Or.inr (Or.inr (Or.inr rfl)))
  have h2 : ∀ n, n ≤ S.1 23 + 1 → VR S (itN (outF a lv (S.1 23) (S.1 24) (S.1 31) R) (itN (brkF a lv (S.1 24) (S.1 31)) (sleepF v0 a lv (S.1 24) (S.1 31) R) (S.1 23)) n) := by
    intro n
    induction n with
    | zero => intro _; exact h1
    | succ n ih => intro hn; exact VR.out hr h5 (by omega) (ih (by omega)) _
  exact h2 _ (Nat.le_refl _)
theorem TM.hour (hs : shpS S) (hr : rngS S) (h : VR S R) : ∀ c, c < S.1 31 → TM S R 0 (itN (brkF a lv (S.1 24) (S.1 31)) (sleepF v0 a lv (S.1 24) (S.1 31) R) (S.1 23) (18 + c)) c := by
  have h6 := hs.1
  have h5 := hs.2.1
  intro c hc
  refine TM.first hr h hc ?_
  rcases brks_at (a := a) (lv := lv) (sl := S.1 24) (cr := S.1 31) (c := c) (n := S.1 23) (r := sleepF v0 a lv (S.1 24) (S.1 31) R) with e | e
  · rw [e, sleep_ne h6 (by omega) (by omega) (by omega)]; exact Or.inl rfl
  · exact Or.inr e
end HR
/-- a row that may be: where crossers are, and its hour -/
def GR (S : SD) (H : Nat) (R : Nat → Int32) : Prop := VR S R ∧ ∃ h, h ≤ H ∧ R 28 = nI h
theorem GR.hours {S : SD} {H : Nat} {R : Nat → Int32} (hs : shpS S) (hr : rngS S) (v0 : Nat → Int32) (a : Nat → Nat → Int32) (lv : Nat) (h : GR S H R) : ∀ n, GR S (H + n) (snR v0 a lv (S.1 23) (S.1 24) (S.1 31) R n) := by
  intro n
  induction n with
  | zero => exact h
  | succ n ih =>
    obtain ⟨h1, k, h2, h3⟩ := ih
    refine ⟨h1.hour hs hr, k + 1, by omega, ?_⟩
    show hourF v0 a lv (S.1 23) (S.1 24) (S.1 31) (snR v0 a lv (S.1 23) (S.1 24) (S.1 31) R n) 28 = _
    rw [hourS_28 hs, h3, nI_add]
theorem GR.mono {S : SD} {H H' : Nat} {R : Nat → Int32} (h : GR S H R) (hH : H ≤ H') : GR S H' R := by
  obtain ⟨h1, k, h2, h3⟩ := h
  exact ⟨h1, k, by omega, h3⟩
