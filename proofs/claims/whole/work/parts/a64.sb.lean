/-! THE CLASS ITSELF: rows that may be -/
def DR (S : SD) (R : Nat → Int32) : Prop := ∀ x, x < S.1 24 → ∃ k, k ≤ 99 ∧ R x = nI k
def RR (S : SD) (H : Nat) (R : Nat → Int32) : Prop := GR S H R ∧ XR S R ∧ DR S R
theorem RR.mono {S : SD} {H H' : Nat} {R : Nat → Int32} (h : RR S H R) (hH : H ≤ H') : RR S H' R := ⟨h.1.mono hH, h.2⟩
theorem RR.row {S : SD} {H : Nat} {R R' : Nat → Int32} (hs : shpS S) (h : RR S H R) (e : ∀ k, k < 32 → R' k = R k) : RR S H R' := by
  have h6 := hs.1
  have h5 := hs.2.1
  obtain ⟨⟨h1, k, hk, h2⟩, h3, h4⟩ := h
  refine ⟨⟨fun c hc => ?_, k, hk, by rw [e 28 (by omega)]; exact h2⟩, fun c hc hc5 => ?_, fun x hx => ?_⟩
  · rw [e (18 + c) (by omega)]; exact h1 c hc
  · rw [e (18 + c) (by omega), e (23 + c) (by omega)]; exact h3 c hc hc5
  · rw [e x (by omega)]; exact h4 x hx
theorem DR.up {S : SD} {R : Nat → Int32} (h : DR S R) {k : Nat} {y : Int32} (hk : S.1 24 ≤ k) : DR S (upd R k y) := by
  intro x hx
  rw [upd_ne (by omega)]
  exact h x hx
theorem DR.hours {S : SD} {R : Nat → Int32} (hs : shpS S) (v0 : Nat → Int32) (a : Nat → Nat → Int32) (lv : Nat) (h : DR S R) : ∀ n, DR S (snR v0 a lv (S.1 23) (S.1 24) (S.1 31) R n) := by
  have h6 := hs.1
  have h5 := hs.2.1
  intro n
  induction n with
  | zero => exact h
  | succ n ih =>
    intro x hx
    show ∃ k, k ≤ 99 ∧ hourF v0 a lv (S.1 23) (S.1 24) (S.1 31) (snR v0 a lv (S.1 23) (S.1 24) (S.1 31) R n) x = nI k
    have e : hourF v0 a lv (S.1 23) (S.1 24) (S.1 31) (snR v0 a lv (S.1 23) (S.1 24) (S.1 31) R n) x = dpF v0 a lv (S.1 24) (S.1 31) (snR v0 a lv (S.1 23) (S.1 24) (S.1 31) R n) x := by
      unfold hourF
      rw [itN_keep (k := x) _ _ (fun i hi r => by unfold outF; exact moves_ne _ (fun c hc => ⟨by omega, by omega, by omega⟩)), itN_keep (k := x) _ _ (fun i hi r => brk_ne (fun c hc => by omega)), sleep_d hs.1 hx]
    rw [e]
    unfold dpF
    split
    · exact heldF_n _ (by omega)
    · exact ih x hx
theorem DR.nb {S : SD} {lv : Nat} {a : Nat → Nat → Int32} (hT : TxR S lv a) (hs : shpS S) (hr : rngS S) (R : Nat → Int32) : DR S (nbF (a 25) lv (S.1 24) R) := by
  intro x hx
  rw [nb_d hs.1 hx]
  exact ⟨S.2.1 25 x, (hr.2.2.2.2.1 x hx).1, hT.2.1 x hx 25 (by decide)⟩
theorem RR.hours {S : SD} {H : Nat} {R : Nat → Int32} (hs : shpS S) (hr : rngS S) (v0 : Nat → Int32) (a : Nat → Nat → Int32) (lv : Nat) (h : RR S H R) (n : Nat) : RR S (H + n) (snR v0 a lv (S.1 23) (S.1 24) (S.1 31) R n) := ⟨h.1.hours hs hr v0 a lv n, h.2.1.hours hs v0 a lv n, h.2.2.hours hs v0 a lv n⟩
theorem RR.ni {S : SD} {H : Nat} {R : Nat → Int32} {lv : Nat} {a : Nat → Nat → Int32} (hT : TxR S lv a) (hs : shpS S) (hr : rngS S) (h : RR S H R) : RR S 0 (niR a lv (S.1 24) (S.1 31) R) := by
  obtain ⟨h1, h2⟩ := GR.ni hs a lv h.1 h.2.1
  refine ⟨h1, h2, fun x hx => ?_⟩
  have h6 := hs.1
  rw [niR, itN_keep (k := x) _ _ (fun i hi r => ni_ne (by omega))]
  exact DR.nb hT hs hr R x hx
theorem RR.bg {S : SD} {lv : Nat} {a : Nat → Nat → Int32} (hT : TxR S lv a) (hs : shpS S) (hr : rngS S) : RR S 0 (bgR a lv (S.1 24)) := by
  obtain ⟨h1, h2⟩ := GR.bg hs a lv
  exact ⟨h1, h2, by rw [bgR_eq]; exact DR.nb hT hs hr _⟩
theorem RR.wh {S : SD} {H : Nat} {R : Nat → Int32} (hs : shpS S) (h : RR S H R) {c : Nat} (hc : c < S.1 31) {y : Int32} (hy : y = -3 ∨ y = -2 ∨ (∃ q, q < S.1 23 ∧ y = nI q) ∨ y = nI 9 ∨ y = nI 10) : RR S H (upd R (18 + c) y) := by
  have h6 := hs.1
  have h5 := hs.2.1
  obtain ⟨⟨h1, k, hk, h2⟩, h3, h4⟩ := h
  refine ⟨⟨h1.up hy, k, hk, by rw [upd_ne (by omega)]; exact h2⟩, fun j hj hj5 => ?_, h4.up (by omega)⟩
  rw [upd_ne (by omega), upd_ne (by omega)]
  exact h3 j hj hj5
theorem RR.lo {S : SD} {H : Nat} {R : Nat → Int32} (hs : shpS S) (h : RR S H R) {k : Nat} (hk : k < 18) (hk2 : S.1 24 ≤ k) {y : Int32} : RR S H (upd R k y) := by
  have h5 := hs.2.1
  obtain ⟨⟨h1, n, hn, h2⟩, h3, h4⟩ := h
  refine ⟨⟨h1.ne (fun c hc => by omega), n, hn, by rw [upd_ne (by omega)]; exact h2⟩, fun j hj hj5 => ?_, h4.up hk2⟩
  rw [upd_ne (by omega), upd_ne (by omega)]
  exact h3 j hj hj5
theorem RR.dp {S : SD} {H : Nat} {R : Nat → Int32} (hs : shpS S) (h : RR S H R) {x : Nat} (hx : x < S.1 24) {y : Int32} (hy : ∃ k, k ≤ 99 ∧ y = nI k) : RR S H (upd R x y) := by
  have h6 := hs.1
  have h5 := hs.2.1
  obtain ⟨⟨h1, n, hn, h2⟩, h3, h4⟩ := h
  refine ⟨⟨h1.ne (fun c hc => by omega), n, hn, by rw [upd_ne (by omega)]; exact h2⟩, fun j hj hj5 => ?_, fun j hj => ?_⟩
  · rw [upd_ne (by omega), upd_ne (by omega)]
    exact h3 j hj hj5
  · by_cases e : j = x
    · subst e; rw [upd_eq]; exact hy
    · rw [upd_ne e]; exact h4 j hj
theorem RR.lull {S : SD} {H : Nat} {a : Nat → Nat → Int32} (hs : shpS S) (h : RR S H (a 54)) {x : Nat} (hx : x < S.1 24) : RR S H (lullR a x) := by
  have h6 := hs.1
  unfold lullR
  exact (h.lo hs (show 6 + x < 18 by omega) (by omega)).dp hs hx (heldF_n _ (by omega))
theorem CNt.dp {S : SD} {R : Nat → Int32} {nv : Nat → Int32} {na : Nat → Nat → Int32} (h : CNt S R nv na) {x : Nat} (hx : x < S.1 24) (y : Int32) (hsl : S.1 24 ≤ 6) : CNt S (upd R x y) nv (va_up na 5 (upd (na 5) x y)) := by
  obtain ⟨h0, h1, h2, h3, h4, h5, h6⟩ := h
  refine ⟨h0.trans (upd_ne (by omega)).symm, h1.trans (upd_ne (by omega)).symm, h2.trans (upd_ne (by omega)).symm, h3.trans (upd_ne (by omega)).symm, ?_, ?_, ?_⟩
  · rw [h4, mkN_congr (P := slpB (upd R x y) (nI (S.1 35))) (Q := slpB R (nI (S.1 35))) _ (fun k hk => slp_row (upd_ne (by omega)) (upd_ne (by omega)))]
  · intro i hi
    have := h5 i hi
    refine ⟨?_, this.2.trans (upd_ne (by omega)).symm⟩
    show upd (na 5) x y i = upd R x y i
    by_cases e : i = x
    · subst e; rw [upd_eq, upd_eq]
    · rw [upd_ne e, upd_ne e]; exact this.1
  · intro j hj
    have := h6 j hj
    exact ⟨this.1.trans (upd_ne (by omega)).symm, this.2.trans (upd_ne (by omega)).symm⟩
theorem or_pow : ∀ m : Fin 64, ∀ j : Fin 6, nI m.val ||| (nI 1 <<< (nI j.val &&& 31)) = nI (m.val ||| 2 ^ j.val) := by decide +kernel
theorem mx_held : ∀ k : Fin 100, mxF (nI 0) (nI k.val - nI 9) = heldF (nI k.val - nI 9) (nI 0) (nI 99) := by decide +kernel
theorem CNt.as {S : SD} {R : Nat → Int32} {nv : Nat → Int32} {na : Nat → Nat → Int32} (h : CNt S R nv na) {x : Nat} (hx : x < S.1 24) (hsl : S.1 24 ≤ 6) (hlt : R 28 < nI (S.1 35)) : CNt S (upd R (6 + x) (nI 0)) (va_up nv 4 (nv 4 ||| (nI 1 <<< (nI x &&& 31)))) na := by
  obtain ⟨h0, h1, h2, h3, h4, h5, h6⟩ := h
  refine ⟨h0.trans (upd_ne (by omega)).symm, h1.trans (upd_ne (by omega)).symm, h2.trans (upd_ne (by omega)).symm, h3.trans (upd_ne (by omega)).symm, ?_, ?_, ?_⟩
  · show nv 4 ||| (nI 1 <<< (nI x &&& 31)) = _
    have hm : mkN (slpB R (nI (S.1 35))) (S.1 24) < 64 := mkN_64 hsl
    rw [h4]
    have e : nI (mkN (slpB R (nI (S.1 35))) (S.1 24)) ||| (nI 1 <<< (nI x &&& 31)) = nI (mkN (slpB R (nI (S.1 35))) (S.1 24) ||| 2 ^ x) := or_pow ⟨_, hm⟩ ⟨x, by omega⟩
    rw [e]
    congr 1
    apply Nat.eq_of_testBit_eq
    intro k
    rw [Nat.testBit_or, mkN_bit, mkN_bit, Nat.testBit_two_pow]
    by_cases ek : x = k
    · subst ek
      have : slpB (upd R (6 + x) (nI 0)) (nI (S.1 35)) x = true := by
        unfold slpB slp
        rw [upd_eq, upd_ne (by omega)]
        exact decide_eq_true ⟨rfl, hlt⟩
      rw [this, decide_eq_true hx]
      simp
    · rw [slp_row (R' := upd R (6 + x) (nI 0)) (R := R) (upd_ne (by omega)) (upd_ne (by omega)), decide_eq_false ek, Bool.or_false]
  · intro i hi
    have := h5 i hi
    exact ⟨this.1.trans (upd_ne (by omega)).symm, this.2.trans (upd_ne (by omega)).symm⟩
  · intro j hj
    have := h6 j hj
    exact ⟨this.1.trans (upd_ne (by omega)).symm, this.2.trans (upd_ne (by omega)).symm⟩
theorem CNt.lull {S : SD} {a : Nat → Nat → Int32} {nv : Nat → Int32} {na : Nat → Nat → Int32} (h : CNt S (a 54) nv na) {x : Nat} (hx : x < S.1 24) (hsl : S.1 24 ≤ 6) (hlt : a 54 28 < nI (S.1 35)) (hD : DR S (a 54)) : CNt S (lullR a x) (va_up nv 4 (nv 4 ||| (nI 1 <<< (nI x &&& 31)))) (va_up na 5 (upd (na 5) x (mxF (nI 0) (na 5 x - nI 9)))) := by
  have h1 := (h.as hx hsl hlt).dp hx (mxF (nI 0) (na 5 x - nI 9)) hsl
  obtain ⟨k, hk, e⟩ := hD x hx
  have e1 : upd (a 54) (6 + x) (nI 0) x = nI k := by rw [upd_ne (by omega)]; exact e
  have e2 : na 5 x = nI k := ((h.2.2.2.2.2.1 x hx).1).trans e
  have e3 : mxF (nI 0) (na 5 x - nI 9) = heldF (upd (a 54) (6 + x) (nI 0) x - nI 9) (nI 0) (nI 99) := by rw [e1, e2]; exact mx_held ⟨k, by omega⟩
  unfold lullR
  rw [← e3]
  exact h1
theorem rem40 : ∀ n : Fin 80, nI n.val - nI n.val / nI 40 * nI 40 = nI (n.val % 40) := by decide +kernel
theorem con_minN (d x y : Nat) (hx : x < 2 ^ 31) (hy : y < 2 ^ 31) : Con mJ9_min_7cf53 d [.int (nI x), .int (nI y)] [] (fun r _ => r = some (.int (nI (min x y)))) := by
  have h := con_min d (nI x) (nI y)
  have e : mnF (nI x) (nI y) = nI (min x y) := by
    unfold mnF
    by_cases w : y < x
    · rw [if_pos ((nI_ltI hy hx).mpr w), Nat.min_eq_right (by omega)]
    · rw [if_neg (fun z => w ((nI_ltI hy hx).mp z)), Nat.min_eq_left (by omega)]
  rw [e] at h
  exact h
