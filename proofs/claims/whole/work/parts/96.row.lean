/-! rows: what an hour does to them -/
theorem upd_ne {f : Nat → Int32} {k j : Nat} {x : Int32} (h : j ≠ k) : upd f k x j = f j := if_neg h
theorem upd_eq {f : Nat → Int32} {k : Nat} {x : Int32} : upd f k x k = x := if_pos rfl
theorem heldF_n (x : Int32) {hi : Nat} (hh : hi < 2 ^ 31) : ∃ k, k ≤ hi ∧ heldF x (nI 0) (nI hi) = nI k := by
  unfold heldF
  by_cases h1 : x < nI 0
  · rw [if_pos h1]; exact ⟨0, Nat.zero_le _, rfl⟩
  · rw [if_neg h1]
    by_cases h2 : nI hi < x
    · rw [if_pos h2]; exact ⟨hi, Nat.le_refl _, rfl⟩
    · rw [if_neg h2]
      obtain ⟨N, h3, h4⟩ := int_eq_ofNat_of_bounds (C := hi) hh (Int32.not_lt.mp h1) (Int32.not_lt.mp h2)
      exact ⟨N, h3, h4⟩
theorem prC_le (pr : List (Option (Nat × Nat))) (m i : Nat) : prC pr m i ≤ i := by
  unfold prC
  exact Nat.le_trans (List.length_filter_le _ _) (List.length_take_le _ _)
theorem bV_n {S : SD} {lv : Nat} {a : Nat → Nat → Int32} (hs : shpS S) (hr : rngS S) (R : Nat → Int32) (p : Int32) (m : Nat) : ∃ k, k ≤ 1188 ∧ bV S lv a R p m = nI k := by
  unfold bV
  by_cases h0 : m = 0
  · rw [if_pos h0]; exact ⟨0, by decide, rfl⟩
  · rw [if_neg h0]
    have hg : ∀ n, n ≤ 6 → ∃ k, k ≤ 594 + 99 * n ∧ itN (bvF S lv a R p m) (nI (S.1 36) * nI (prC S.2.2.2.1 m (S.1 30))) n = nI k := by
      intro n
      induction n with
      | zero =>
        intro _
        refine ⟨S.1 36 * prC S.2.2.2.1 m (S.1 30), ?_, nI_mul _ _⟩
        have h1 := prC_le S.2.2.2.1 m (S.1 30)
        have h2 : prC S.2.2.2.1 m (S.1 30) ≤ 6 := Nat.le_trans h1 hs.2.2.1
        have h3 : S.1 36 ≤ 99 := hr.2.2.1
        calc S.1 36 * prC S.2.2.2.1 m (S.1 30) ≤ 99 * 6 := Nat.mul_le_mul h3 h2
          _ ≤ _ := by omega
      | succ n ih =>
        intro hn
        obtain ⟨k, hk, he⟩ := ih (by omega)
        show ∃ k, k ≤ 594 + 99 * (n + 1) ∧ bvF S lv a R p m n (itN _ _ n) = nI k
        rw [he]
        unfold bvF
        by_cases h1 : m.testBit n = true
        · rw [if_pos h1]
          obtain ⟨j, hj, hj2⟩ := heldF_n (lawO (seF S lv a R p (nI (pcN m 6 - 1)) n) (S.2.2.2.2 0) (plV R 0 n)) (hi := 99) (by decide)
          refine ⟨k + j, by omega, ?_⟩
          show nI k + heldF _ _ _ = _
          rw [hj2, nI_add]
        · rw [if_neg h1]; exact ⟨k, by omega, rfl⟩
    obtain ⟨k, hk, he⟩ := hg (S.1 24) hs.1
    have := hs.1
    exact ⟨k, by omega, he⟩
theorem bR_n {S : SD} {lv : Nat} {a : Nat → Nat → Int32} (hT : TxR S lv a) (hs : shpS S) (hr : rngS S) (hlv : lv < 2) (R : Nat → Int32) (p : Int32) : ∃ k, k ≤ 1188 ∧ bR a lv (S.1 24) (S.1 31) R p = nI k := by
  rw [bears_bV hT hs hr hlv]; exact bV_n hs hr R p _
theorem itN_noise {R R' : Nat → Int32} {no : Nat → Int32} {lv n : Nat} (h : ∀ c, c < n → R' (18 + c) = R (18 + c)) : itN (noiseF R' no lv) 0 n = itN (noiseF R no lv) 0 n := itN_congr n (fun c hc s => by unfold noiseF; rw [h c hc])
theorem itN_load {R R' : Nat → Int32} {lo : Nat → Int32} {lv n : Nat} {p : Int32} (h : ∀ c, c < n → R' (18 + c) = R (18 + c)) : itN (loadF R' lo lv p) 0 n = itN (loadF R lo lv p) 0 n := itN_congr n (fun c hc s => by unfold loadF; rw [h c hc])
theorem seF_row {S : SD} {lv : Nat} {a : Nat → Nat → Int32} {R R' : Nat → Int32} {p b : Int32} {x : Nat} (h0 : R' x = R x) (h28 : R' 28 = R 28) (h18 : ∀ c, c < S.1 31 → R' (18 + c) = R (18 + c)) : seF S lv a R' p b x = seF S lv a R p b x := by
  funext j
  unfold seF
  rw [h0, h28, itN_noise h18, itN_load h18]
theorem aV_row {S : SD} {lv : Nat} {a : Nat → Nat → Int32} {R R' : Nat → Int32} {k : Nat} {p b lo hi : Int32} {x : Nat} (h0 : R' x = R x) (h28 : R' 28 = R 28) (h18 : ∀ c, c < S.1 31 → R' (18 + c) = R (18 + c)) : aV S lv a R' k p b x lo hi = aV S lv a R k p b x lo hi := by
  unfold aV plV
  rw [seF_row h0 h28 h18, h0]
theorem slp_row {R R' : Nat → Int32} {dawn : Int32} {k : Nat} (h6 : R' (6 + k) = R (6 + k)) (h28 : R' 28 = R 28) : slpB R' dawn k = slpB R dawn k := by
  unfold slpB slp; rw [h6, h28]
theorem mOn_row {S : SD} {R R' : Nat → Int32} {p : Int32} (h6 : ∀ k, k < S.1 24 → R' (6 + k) = R (6 + k) ∧ R' (12 + k) = R (12 + k)) (h28 : R' 28 = R 28) : mOn S R' p = mOn S R p := by
  unfold mOn
  refine mkN_congr _ (fun k hk => ?_)
  unfold onB
  rw [slp_row (h6 k hk).1 h28, (h6 k hk).2]
theorem bN_row {S : SD} {R R' : Nat → Int32} {x : Nat} (hx : x < S.1 24) (h6 : ∀ k, k < S.1 24 → R' (6 + k) = R (6 + k) ∧ R' (12 + k) = R (12 + k)) (h28 : R' 28 = R 28) : bN S R' x = bN S R x := by
  unfold bN
  rw [(h6 x hx).2, mOn_row h6 h28]
theorem bV_row {S : SD} {lv : Nat} {a : Nat → Nat → Int32} {R R' : Nat → Int32} {p : Int32} {m : Nat} (h0 : ∀ x, x < S.1 24 → R' x = R x) (h28 : R' 28 = R 28) (h18 : ∀ c, c < S.1 31 → R' (18 + c) = R (18 + c)) : bV S lv a R' p m = bV S lv a R p m := by
  unfold bV
  split
  · rfl
  · exact itN_congr _ (fun x hx s => by unfold bvF; rw [aV_row (h0 x hx) h28 h18])
/-! what a night of the class follows -/
section CNS
variable {S : SD} {R : Nat → Int32} {nv : Nat → Int32} {na : Nat → Nat → Int32}
theorem CNt.wh (h : CNt S R nv na) {c : Nat} (hc : c < 5) (y : Int32) (hsl : S.1 24 ≤ 6) : CNt S (upd R (18 + c) y) nv (va_up na 7 (upd (na 7) c y)) := by
  obtain ⟨h0, h1, h2, h3, h4, h5, h6⟩ := h
  refine ⟨h0.trans (upd_ne (by omega)).symm, h1.trans (upd_ne (by omega)).symm, h2.trans (upd_ne (by omega)).symm, h3.trans (upd_ne (by omega)).symm, ?_, ?_, ?_⟩
  · rw [h4, mkN_congr (P := slpB (upd R (18 + c) y) (nI (S.1 35))) (Q := slpB R (nI (S.1 35))) _ (fun k hk => slp_row (upd_ne (by omega)) (upd_ne (by omega)))]
  · intro i hi
    have := h5 i hi
    exact ⟨this.1.trans (upd_ne (by omega)).symm, this.2.trans (upd_ne (by omega)).symm⟩
  · intro j hj
    have := h6 j hj
    refine ⟨?_, this.2.trans (upd_ne (by omega)).symm⟩
    show upd (na 7) c y j = upd R (18 + c) y (18 + j)
    by_cases e : j = c
    · subst e; rw [upd_eq, upd_eq]
    · rw [upd_ne e, upd_ne (by omega)]; exact this.1
theorem CNt.ov (h : CNt S R nv na) {c : Nat} (hc : c < 5) (y : Int32) (hsl : S.1 24 ≤ 6) : CNt S (upd R (23 + c) y) nv (va_up na 8 (upd (na 8) c y)) := by
  obtain ⟨h0, h1, h2, h3, h4, h5, h6⟩ := h
  refine ⟨h0.trans (upd_ne (by omega)).symm, h1.trans (upd_ne (by omega)).symm, h2.trans (upd_ne (by omega)).symm, h3.trans (upd_ne (by omega)).symm, ?_, ?_, ?_⟩
  · rw [h4, mkN_congr (P := slpB (upd R (23 + c) y) (nI (S.1 35))) (Q := slpB R (nI (S.1 35))) _ (fun k hk => slp_row (upd_ne (by omega)) (upd_ne (by omega)))]
  · intro i hi
    have := h5 i hi
    exact ⟨this.1.trans (upd_ne (by omega)).symm, this.2.trans (upd_ne (by omega)).symm⟩
  · intro j hj
    have := h6 j hj
    refine ⟨this.1.trans (upd_ne (by omega)).symm, ?_⟩
    show upd (na 8) c y j = upd R (23 + c) y (23 + j)
    by_cases e : j = c
    · subst e; rw [upd_eq, upd_eq]
    · rw [upd_ne e, upd_ne (by omega)]; exact this.2
theorem CNt.to (h : CNt S R nv na) (y : Int32) (hsl : S.1 24 ≤ 6) : CNt S (upd R 31 y) (va_up nv 3 y) na := by
  obtain ⟨h0, h1, h2, h3, h4, h5, h6⟩ := h
  refine ⟨h0.trans (upd_ne (by omega)).symm, h1.trans (upd_ne (by omega)).symm, h2.trans (upd_ne (by omega)).symm, upd_eq.symm, ?_, ?_, ?_⟩
  · show nv 4 = _
    rw [h4, mkN_congr (P := slpB (upd R 31 y) (nI (S.1 35))) (Q := slpB R (nI (S.1 35))) _ (fun k hk => slp_row (upd_ne (by omega)) (upd_ne (by omega)))]
  · intro i hi
    have := h5 i hi
    exact ⟨this.1.trans (upd_ne (by omega)).symm, this.2.trans (upd_ne (by omega)).symm⟩
  · intro j hj
    have := h6 j hj
    exact ⟨this.1.trans (upd_ne (by omega)).symm, this.2.trans (upd_ne (by omega)).symm⟩
end CNS
/-! where crossers are -/
def VR (S : SD) (R : Nat → Int32) : Prop := ∀ c, c < S.1 31 → R (18 + c) = -3 ∨ R (18 + c) = -2 ∨ (∃ q, q < S.1 23 ∧ R (18 + c) = nI q) ∨ R (18 + c) = nI 9 ∨ R (18 + c) = nI 10
theorem VR.up {S : SD} {R : Nat → Int32} (h : VR S R) {c : Nat} {y : Int32} (hy : y = -3 ∨ y = -2 ∨ (∃ q, q < S.1 23 ∧ y = nI q) ∨ y = nI 9 ∨ y = nI 10) : VR S (upd R (18 + c) y) := by
  intro j hj
  by_cases e : 18 + j = 18 + c
  · rw [e, upd_eq]; exact hy
  · rw [upd_ne e]; exact h j hj
theorem VR.ne {S : SD} {R : Nat → Int32} (h : VR S R) {k : Nat} {y : Int32} (hk : ∀ c, c < S.1 31 → 18 + c ≠ k) : VR S (upd R k y) := by
  intro j hj
  rw [upd_ne (hk j hj)]; exact h j hj
/-- where one must be to go on at the i-th turn -/
def frI (sp i : Nat) : Int32 := if i = sp then -3 else nI (sp - 1 - i)
theorem frI_toInt {sp i : Nat} (hs : sp ≤ 5) (hi : i ≤ sp) : (frI sp i).toInt = if i = sp then -3 else (sp : Int) - 1 - i := by
  unfold frI
  by_cases h : i = sp
  · rw [if_pos h, if_pos h]; rfl
  · rw [if_neg h, if_neg h, nI_toInt (by omega)]; omega
theorem frI_10 {sp i : Nat} (hs : sp ≤ 5) (hi : i ≤ sp) : ¬ frI sp i = nI 10 := by
  intro e
  have h1 := frI_toInt hs hi
  rw [e, show (nI 10).toInt = 10 from rfl] at h1
  split at h1 <;> omega
def TM (S : SD) (r0 : Nat → Int32) (i : Nat) (w : Int32) (c : Nat) : Prop := ∀ j, i ≤ j → j ≤ S.1 23 → (w = frI (S.1 23) j ↔ (wasV r0 c = pD (S.1 23) j ∧ ¬ w = nI 10))
theorem i32_eq {x y : Int32} : x = y ↔ x.toInt = y.toInt := ⟨fun h => by rw [h], fun h => Int32.toInt_inj.mp h⟩
theorem TM.first {S : SD} (hr : rngS S) {r0 : Nat → Int32} (hv : VR S r0) {c : Nat} (hc : c < S.1 31) {w : Int32} (hw : w = r0 (18 + c) ∨ w = nI 10) : TM S r0 0 w c := by
  have hs := hr.1.2
  intro j _ hj
  rcases hw with rfl | rfl
  · rw [i32_eq, frI_toInt hs hj, i32_eq (y := pD _ _), pD_toInt hs (by omega), i32_eq (y := nI 10), show (nI 10).toInt = 10 from rfl]
    rcases hv c hc with h | h | ⟨q, hq, h⟩ | h | h
    · rw [show wasV r0 c = -1 from if_pos h, h, show (-3 : Int32).toInt = -3 from rfl, show (-1 : Int32).toInt = -1 from rfl]; split <;> omega
    · rw [show wasV r0 c = r0 (18 + c) from if_neg (by rw [h]; decide), h, show (-2 : Int32).toInt = -2 from rfl]; split <;> omega
    · rw [show wasV r0 c = r0 (18 + c) from if_neg (fun z => by rw [h, i32_eq, nI_toInt (by omega), show (-3 : Int32).toInt = -3 from rfl] at z; omega), h, nI_toInt (by omega)]; split <;> omega
    · rw [show wasV r0 c = r0 (18 + c) from if_neg (by rw [h]; decide), h, show (nI 9).toInt = 9 from rfl]; split <;> omega
    · rw [show wasV r0 c = r0 (18 + c) from if_neg (by rw [h]; decide), h, show (nI 10).toInt = 10 from rfl]; split <;> omega
  · exact ⟨fun z => absurd z.symm (frI_10 hs hj), fun z => absurd rfl z.2⟩
theorem TM.next {S : SD} {r0 : Nat → Int32} {i : Nat} {w : Int32} {c : Nat} (h : TM S r0 i w c) : TM S r0 (i + 1) w c := fun j h1 h2 => h j (by omega) h2
theorem TM.gone {S : SD} (hr : rngS S) {r0 : Nat → Int32} {i : Nat} (hi : i ≤ S.1 23) {w : Int32} {c : Nat} (hw : wasV r0 c = pD (S.1 23) i) (hy : w = nI 9 ∨ w = frI (S.1 23) i ∨ w = nI (S.1 23 - i)) : TM S r0 (i + 1) w c := by
  have hs := hr.1.2
  intro j h1 h2
  have hne : ¬ wasV r0 c = pD (S.1 23) j := by
    rw [hw, i32_eq, pD_toInt hs (by omega), pD_toInt hs (by omega)]; omega
  refine ⟨fun z => ?_, fun z => absurd z.1 hne⟩
  exfalso
  rw [i32_eq, frI_toInt hs h2] at z
  rcases hy with rfl | rfl | rfl
  · rw [show (nI 9).toInt = 9 from rfl] at z; split at z <;> omega
  · rw [frI_toInt hs hi, if_neg (by omega)] at z; split at z <;> omega
  · rw [nI_toInt (by omega)] at z; split at z <;> omega
theorem pD_n {sp i : Nat} (hs : sp ≤ 5) (hi : i ≤ sp) : pD sp i + nI 1 = nI (sp - i) := by
  unfold pD
  rw [show nI 1 = Int32.ofInt 1 from rfl, ← Int32.ofInt_add, show ((sp : Int) - 1 - i + 1) = ((sp - i : Nat) : Int) by omega]
  rfl
theorem pD_top {sp i : Nat} (hs : sp ≤ 5) (h1 : 1 ≤ sp) (hi : i ≤ sp) : pD sp i = nI (sp - 1) ↔ i = 0 := by
  rw [i32_eq, pD_toInt hs (by omega), nI_toInt (by omega)]; omega
section MV
variable {S : SD} {lv : Nat} {a : Nat → Nat → Int32} {r0 : Nat → Int32}
theorem cross_ne {c : Nat} {y : Int32} {r : Nat → Int32} {sp sl cr k : Nat} (h18 : k ≠ 18 + c) (h23 : k ≠ 23 + c) (h31 : k ≠ 31) : crossF a lv sp sl cr c y r k = r k := by
  unfold crossF
  split
  · unfold overF; rw [upd_ne h31, upd_ne h23, upd_ne h18]
  · split
    · rfl
    · rw [upd_ne h18]
theorem move_ne {c : Nat} {p : Int32} {r : Nat → Int32} {sp sl cr k : Nat} (h18 : k ≠ 18 + c) (h23 : k ≠ 23 + c) (h31 : k ≠ 31) : moveF a lv sp sl cr r0 p c r k = r k := by
  unfold moveF
  split
  · exact cross_ne h18 h23 h31
  · rfl
theorem moves_ne {p : Int32} {r : Nat → Int32} {sp sl cr k : Nat} : ∀ n, (∀ c, c < n → k ≠ 18 + c ∧ k ≠ 23 + c ∧ k ≠ 31) → itN (moveF a lv sp sl cr r0 p) r n k = r k := by
  intro n h
  exact itN_keep n r (fun i hi r => move_ne (h i hi).1 (h i hi).2.1 (h i hi).2.2)
theorem itN_at {f : Nat → (Nat → Int32) → (Nat → Int32)} {k c : Nat} : ∀ n, c < n → ∀ r : Nat → Int32, (∀ i, i < n → i ≠ c → ∀ r, f i r k = r k) → itN f r n k = f c (itN f r c) k := by
  intro n
  induction n with
  | zero => intro h; omega
  | succ n ih =>
    intro h r hk
    show f n (itN f r n) k = _
    by_cases e : n = c
    · rw [e]
    · rw [hk n (by omega) e, ih (by omega) r (fun i hi => hk i (by omega))]
theorem TM.out (hr : rngS S) (hs : shpS S) {i : Nat} (hi : i ≤ S.1 23) {r : Nat → Int32} (h : ∀ c, c < S.1 31 → TM S r0 i (r (18 + c)) c) : ∀ c, c < S.1 31 → TM S r0 (i + 1) (outF a lv (S.1 23) (S.1 24) (S.1 31) r0 i r (18 + c)) c := by
  have hcr := hs.2.1
  intro c hc
  unfold outF
  rw [itN_at _ hc r (fun j hj hjc r => move_ne (by omega) (by omega) (by omega))]
  have hk : itN (moveF a lv (S.1 23) (S.1 24) (S.1 31) r0 (pD (S.1 23) i)) r c (18 + c) = r (18 + c) := moves_ne c (fun j hj => ⟨by omega, by omega, by omega⟩)
  generalize itN (moveF a lv (S.1 23) (S.1 24) (S.1 31) r0 (pD (S.1 23) i)) r c = r2 at hk ⊢
  have hT := h c hc
  rw [← hk] at hT
  have h1 := hT i (Nat.le_refl _) hi
  unfold moveF
  by_cases h2 : wasV r0 c = pD (S.1 23) i ∧ ¬ r2 (18 + c) = nI 10
  · rw [if_pos h2]
    refine TM.gone hr hi h2.1 ?_
    unfold crossF
    split
    · left; unfold overF; rw [upd_ne (by omega), upd_ne (by omega), upd_eq]
    · split
      · right; left; exact h1.mpr h2
      · right; right; rw [upd_eq, h2.1, pD_n hr.1.2 hi]
  · rw [if_neg h2]; exact hT.next
theorem VR.out (hr : rngS S) (hs5 : S.1 31 ≤ 5) {i : Nat} (hi : i ≤ S.1 23) {r : Nat → Int32} (h : VR S r) : ∀ n, VR S (itN (moveF a lv (S.1 23) (S.1 24) (S.1 31) r0 (pD (S.1 23) i)) r n) := by
  have hs := hr.1.2
  intro n
  induction n with
  | zero => exact h
  | succ n ih =>
    show VR S (moveF a lv (S.1 23) (S.1 24) (S.1 31) r0 (pD (S.1 23) i) n _)
    generalize itN (moveF a lv (S.1 23) (S.1 24) (S.1 31) r0 (pD (S.1 23) i)) r n = r2 at ih ⊢
    unfold moveF
    split
    · rename_i h2
      rw [h2.1]
      unfold crossF
      split
      · intro c hc
        unfold overF
        rcases Nat.lt_or_ge c 5 with h5 | h5
        · rw [upd_ne (by omega)]
          by_cases e : 18 + c = 23 + n
          · omega
          · rw [upd_ne e]
            exact (ih.up (Or.inr (Or.inr (Or.inr (Or.inl rfl))))) c hc
        · exact absurd hc (by omega)
      · split
        · exact ih
        · rename_i h3 h4
          refine ih.up (Or.inr (Or.inr (Or.inl ⟨S.1 23 - i, ?_, pD_n hs hi⟩)))
          have : i ≠ 0 := fun z => h3 ((pD_top hs hr.1.1 hi).mpr z)
          have := hr.1.1
          omega
    · exact ih
end MV
