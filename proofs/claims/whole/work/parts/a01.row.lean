/-! rows: who lies where, who is put to sleep, who stays where it is -/
theorem upd_upd (f : Nat → Int32) (k : Nat) (x y : Int32) : upd (upd f k x) k y = upd f k y := by
  funext j
  unfold upd
  by_cases h : j = k
  · rw [if_pos h, if_pos h]
  · rw [if_neg h, if_neg h, if_neg h]
theorem upd_self (f : Nat → Int32) (k : Nat) : upd f k (f k) = f := by
  funext j
  unfold upd
  by_cases h : j = k
  · rw [if_pos h, h]
  · rw [if_neg h]
theorem CNt.li {S : SD} {R : Nat → Int32} {nv : Nat → Int32} {na : Nat → Nat → Int32} (h : CNt S R nv na) {x : Nat} (hx : x < S.1 24) (y : Int32) (hsl : S.1 24 ≤ 6) : CNt S (upd R (12 + x) y) nv (va_up na 6 (upd (na 6) x y)) := by
  obtain ⟨h0, h1, h2, h3, h4, h5, h6⟩ := h
  refine ⟨h0.trans (upd_ne (by omega)).symm, h1.trans (upd_ne (by omega)).symm, h2.trans (upd_ne (by omega)).symm, h3.trans (upd_ne (by omega)).symm, ?_, ?_, ?_⟩
  · rw [h4, mkN_congr (P := slpB (upd R (12 + x) y) (nI (S.1 35))) (Q := slpB R (nI (S.1 35))) _ (fun k hk => slp_row (upd_ne (by omega)) (upd_ne (by omega)))]
  · intro i hi
    have := h5 i hi
    refine ⟨this.1.trans (upd_ne (by omega)).symm, ?_⟩
    show upd (na 6) x y i = upd R (12 + x) y (12 + i)
    by_cases e : i = x
    · subst e; rw [upd_eq, upd_eq]
    · rw [upd_ne e, upd_ne (by omega)]; exact this.2
  · intro j hj
    have := h6 j hj
    exact ⟨this.1.trans (upd_ne (by omega)).symm, this.2.trans (upd_ne (by omega)).symm⟩
theorem saF_out {r : Nat → Int32} {n : Nat} {s : Int32} {j : Nat} (h : ¬ (6 ≤ j ∧ j < 6 + n)) : saF r n s j = r j := if_neg h
theorem saF_in {r : Nat → Int32} {n : Nat} {s : Int32} {k : Nat} (h : k < n) : saF r n s (6 + k) = if ((s >>> (nI k &&& 31)) &&& nI 1) = nI 1 then nI 0 else nI 1 := by
  unfold saF
  rw [if_pos (by omega), show 6 + k - 6 = k by omega]
theorem and_lt64 {m n : Nat} (h : m &&& n = m) (hn : n < 64) : m < 64 := by
  rw [← h]; exact Nat.lt_of_le_of_lt Nat.and_le_right hn
theorem sub_bit {m n k : Nat} (h : m &&& n = m) (hk : m.testBit k = true) : n.testBit k = true := by
  have h2 : (m &&& n).testBit k = true := by rw [h]; exact hk
  rw [Nat.testBit_and] at h2
  simp at h2
  exact h2.2
theorem CNt.saX {S : SD} {R : Nat → Int32} {nv : Nat → Int32} {na : Nat → Nat → Int32} (h : CNt S R nv na) (hsl : S.1 24 ≤ 6) (s x : Int32) (hm : x = nI (mkN (slpB (saF R (S.1 24) s) (nI (S.1 35))) (S.1 24))) : CNt S (saF R (S.1 24) s) (va_up nv 4 x) na := by
  obtain ⟨h0, h1, h2, h3, h4, h5, h6⟩ := h
  refine ⟨h0.trans (saF_out (by omega)).symm, h1.trans (saF_out (by omega)).symm, h2.trans (saF_out (by omega)).symm, h3.trans (saF_out (by omega)).symm, hm, fun i hi => ?_, fun c hc => ?_⟩
  · exact ⟨(h5 i hi).1.trans (saF_out (by omega)).symm, (h5 i hi).2.trans (saF_out (by omega)).symm⟩
  · exact ⟨(h6 c hc).1.trans (saF_out (by omega)).symm, (h6 c hc).2.trans (saF_out (by omega)).symm⟩
/-- a set of those that sleep -/
theorem sa_mk {S : SD} {R : Nat → Int32} (hsl : S.1 24 ≤ 6) {m : Nat} (hm : m &&& aslN S R = m) : mkN (slpB (saF R (S.1 24) (nI m)) (nI (S.1 35))) (S.1 24) = m := by
  have h64 : m < 64 := and_lt64 hm (mkN_64 hsl)
  apply Nat.eq_of_testBit_eq
  intro k
  rw [mkN_bit]
  by_cases hk : k < S.1 24
  · rw [show decide (k < S.1 24) = true from decide_eq_true hk, Bool.true_and]
    unfold slpB slp
    rw [saF_in hk, saF_out (by omega)]
    have hb := bitT' h64 (show k < 6 by omega)
    by_cases hmk : m.testBit k = true
    · rw [if_pos (hb.mpr hmk), hmk]
      have h2 := (asl_bit (S := S) (R := R) hk).mp (sub_bit hm hmk)
      exact decide_eq_true ⟨rfl, h2.2⟩
    · rw [if_neg (fun z => hmk (hb.mp z)), show m.testBit k = false by simpa using hmk]
      exact decide_eq_false (fun z => by have := z.1; revert this; decide)
  · rw [show decide (k < S.1 24) = false from decide_eq_false hk, Bool.false_and]
    by_cases hmk : m.testBit k = true
    · have h2 := sub_bit hm hmk
      rw [mkN_bit, show decide (k < S.1 24) = false from decide_eq_false hk, Bool.false_and] at h2
      cases h2
    · exact (by simpa using hmk : m.testBit k = false).symm
theorem CNt.sa {S : SD} {R : Nat → Int32} {nv : Nat → Int32} {na : Nat → Nat → Int32} (h : CNt S R nv na) (hsl : S.1 24 ≤ 6) {m : Nat} (hm : m &&& aslN S R = m) : CNt S (saF R (S.1 24) (nI m)) (va_up nv 4 (nI m)) na := h.saX hsl _ _ (congrArg nI (sa_mk hsl hm).symm)
/-- thought awake -/
theorem aw_mk {S : SD} {R : Nat → Int32} (hsl : S.1 24 ≤ 6) {m : Nat} (hm : m < 64) : (if R 28 < nI (S.1 35) then nI (2 ^ S.1 24 - 1) &&& (nI m ^^^ (-1)) else nI 0) = nI (mkN (slpB (saF R (S.1 24) (nI m ^^^ (-1))) (nI (S.1 35))) (S.1 24)) := by
  have hb : ∀ k, k < S.1 24 → slpB (saF R (S.1 24) (nI m ^^^ (-1))) (nI (S.1 35)) k = (!m.testBit k && decide (R 28 < nI (S.1 35))) := by
    intro k hk
    unfold slpB slp
    rw [saF_in hk, saF_out (by omega)]
    have h1 : (((nI m ^^^ (-1)) >>> (nI k &&& 31)) &&& nI 1 = nI 1) ↔ m.testBit k = false := (show ∀ m : Fin 64, ∀ k : Fin 6, (((nI m.val ^^^ (-1)) >>> (nI k.val &&& 31)) &&& nI 1 = nI 1) ↔ m.val.testBit k.val = false by decide +kernel) ⟨m, hm⟩ ⟨k, by omega⟩
    by_cases h2 : m.testBit k = false
    · rw [if_pos (h1.mpr h2), h2]
      by_cases h3 : R 28 < nI (S.1 35)
      · simp [h3]; rfl
      · simp [h3]
    · rw [if_neg (fun z => h2 (h1.mp z)), show m.testBit k = true by simpa using h2]
      exact decide_eq_false (fun z => by have := z.1; revert this; decide)
  by_cases h3 : R 28 < nI (S.1 35)
  · rw [if_pos h3, ← mkN_true]
    have e : nI m ^^^ (-1) = nI m ^^^ (-1) := rfl
    have h64 : mkN (fun _ => true) (S.1 24) < 64 := mkN_64 hsl
    rw [andn_all ⟨_, h64⟩ ⟨m, hm⟩]
    congr 1
    apply Nat.eq_of_testBit_eq
    intro k
    rw [Nat.testBit_and, Nat.testBit_xor, mkN_bit, mkN_bit]
    by_cases hk : k < S.1 24
    · rw [hb k hk, bit63 ⟨k, by omega⟩]
      simp [hk, h3]
    · simp [hk]
  · rw [if_neg h3, mkN_0 _ (fun k hk => by rw [hb k hk]; simp [h3])]
theorem CNt.aw {S : SD} {R : Nat → Int32} {nv : Nat → Int32} {na : Nat → Nat → Int32} (h : CNt S R nv na) (hsl : S.1 24 ≤ 6) {m : Nat} (hm : m < 64) : CNt S (saF R (S.1 24) (nI m ^^^ (-1))) (va_up nv 4 (if R 28 < nI (S.1 35) then nI (2 ^ S.1 24 - 1) &&& (nI m ^^^ (-1)) else nI 0)) na := h.saX hsl _ _ (aw_mk hsl hm)
/-! who is over, has fallen, or is at home stays so -/
def stays (w : Int32) : Prop := w = -2 ∨ w = nI 9 ∨ w = nI 10
theorem stays_was {R : Nat → Int32} {c : Nat} (h : stays (R (18 + c))) : wasV R c = R (18 + c) := by
  unfold wasV
  rw [if_neg]
  rcases h with h | h | h <;> rw [h] <;> decide
theorem stays_pD {w : Int32} (h : stays w) {sp i : Nat} (hs : sp ≤ 5) (hi : i ≤ sp) : ¬ w = pD sp i := by
  intro e
  have h2 := congrArg Int32.toInt e
  rw [pD_toInt hs (by omega)] at h2
  rcases h with h | h | h
  · rw [h, show (-2 : Int32).toInt = -2 from rfl] at h2; omega
  · rw [h, show (nI 9).toInt = 9 from rfl] at h2; omega
  · rw [h, show (nI 10).toInt = 10 from rfl] at h2; omega
theorem stays_move {a : Nat → Nat → Int32} {lv sp sl cr c i : Nat} {R r : Nat → Int32} (h : stays (R (18 + c))) (hs : sp ≤ 5) (hi : i ≤ sp) : moveF a lv sp sl cr R (pD sp i) c r = r := by
  unfold moveF
  rw [if_neg (fun z => stays_pD h hs hi (by rw [← stays_was h]; exact z.1))]
theorem stays_fall {w : Int32} (h : stays w) {p : Nat} (hp : p < 5) : ¬ w = nI p := by
  intro e
  have h2 := congrArg Int32.toInt e
  rw [nI_toInt (by omega)] at h2
  rcases h with h | h | h
  · rw [h, show (-2 : Int32).toInt = -2 from rfl] at h2; omega
  · rw [h, show (nI 9).toInt = 9 from rfl] at h2; omega
  · rw [h, show (nI 10).toInt = 10 from rfl] at h2; omega
theorem stays_brk {a : Nat → Nat → Int32} {lv sl cr c : Nat} {r : Nat → Int32} (h : stays (r (18 + c))) : ∀ n, n ≤ 5 → itN (brkF a lv sl cr) r n (18 + c) = r (18 + c) := by
  intro n
  induction n with
  | zero => intro _; rfl
  | succ n ih =>
    intro hn
    show brkF a lv sl cr n (itN (brkF a lv sl cr) r n) (18 + c) = _
    unfold brkF
    split
    · rw [show (itN (fun p r => if bR a lv sl cr r (nI p) < itN (loadF r (a 32) lv (nI p)) 0 cr then itN (fallF p) r cr else r) r n) = itN (brkF a lv sl cr) r n from rfl]
      have h3 : ∀ m, itN (fallF n) (itN (brkF a lv sl cr) r n) m (18 + c) = r (18 + c) := by
        intro m
        induction m with
        | zero => exact ih (by omega)
        | succ m ihm =>
          show fallF n m (itN (fallF n) (itN (brkF a lv sl cr) r n) m) (18 + c) = _
          by_cases e : c = m
          · unfold fallF
            rw [show (itN (fun c r => if r (18 + c) = nI n then upd r (18 + c) (nI 10) else r) (itN (brkF a lv sl cr) r n) m) = itN (fallF n) (itN (brkF a lv sl cr) r n) m from rfl, ← e]
            rw [← e] at ihm
            rw [if_neg (by rw [ihm]; exact stays_fall h (by omega)), ihm]
          · rw [fall_ne (by omega), ihm]
      exact h3 cr
    · exact ih (by omega)
section HST
variable {S : SD} {v0 : Nat → Int32} {a : Nat → Nat → Int32} {lv : Nat} {R : Nat → Int32}
theorem hour_stay (hs : shpS S) (hr : rngS S) {c : Nat} (hc : c < S.1 31) (h : stays (R (18 + c))) : hourF v0 a lv (S.1 23) (S.1 24) (S.1 31) R (18 + c) = R (18 + c) := by
  have h6 := hs.1
  have h5 := hs.2.1
  have hsp := hr.1.2
  have h0 : sleepF v0 a lv (S.1 24) (S.1 31) R (18 + c) = R (18 + c) := sleep_ne h6 (by omega) (by omega) (by omega)
  have h1 : itN (brkF a lv (S.1 24) (S.1 31)) (sleepF v0 a lv (S.1 24) (S.1 31) R) (S.1 23) (18 + c) = R (18 + c) := by
    rw [stays_brk (by rw [h0]; exact h) _ hsp, h0]
  unfold hourF
  have h2 : ∀ n, n ≤ S.1 23 + 1 → itN (outF a lv (S.1 23) (S.1 24) (S.1 31) R) (itN (brkF a lv (S.1 24) (S.1 31)) (sleepF v0 a lv (S.1 24) (S.1 31) R) (S.1 23)) n (18 + c) = R (18 + c) := by
    intro n
    induction n with
    | zero => intro _; exact h1
    | succ n ih =>
      intro hn
      show outF a lv (S.1 23) (S.1 24) (S.1 31) R n _ (18 + c) = _
      unfold outF
      rw [itN_at (k := 18 + c) (c := c) _ hc _ (fun i hi hne r => move_ne (by omega) (by omega) (by omega)), stays_move h hsp (by omega), moves_ne (k := 18 + c) c (fun j hj => ⟨by omega, by omega, by omega⟩)]
      exact ih (by omega)
  exact h2 _ (Nat.le_refl _)
theorem hour_s31 (hs : shpS S) (hr : rngS S) (h : ∀ c, c < S.1 31 → stays (R (18 + c))) : hourF v0 a lv (S.1 23) (S.1 24) (S.1 31) R 31 = R 31 := by
  have h6 := hs.1
  have h5 := hs.2.1
  have hsp := hr.1.2
  unfold hourF
  have h2 : ∀ n, n ≤ S.1 23 + 1 → itN (outF a lv (S.1 23) (S.1 24) (S.1 31) R) (itN (brkF a lv (S.1 24) (S.1 31)) (sleepF v0 a lv (S.1 24) (S.1 31) R) (S.1 23)) n = itN (brkF a lv (S.1 24) (S.1 31)) (sleepF v0 a lv (S.1 24) (S.1 31) R) (S.1 23) := by
    intro n
    induction n with
    | zero => intro _; rfl
    | succ n ih =>
      intro hn
      show outF a lv (S.1 23) (S.1 24) (S.1 31) R n (itN (outF a lv (S.1 23) (S.1 24) (S.1 31) R) (itN (brkF a lv (S.1 24) (S.1 31)) (sleepF v0 a lv (S.1 24) (S.1 31) R) (S.1 23)) n) = _
      rw [ih (by omega)]
      unfold outF
      exact itN_id _ (fun c hc r => stays_move (h c hc) hsp (by omega))
  rw [h2 _ (Nat.le_refl _), itN_keep (k := 31) _ _ (fun i hi r => brk_ne (fun c hc => by omega)), sleep_ne h6 (by omega) (by omega) (by omega)]
theorem sn_stay (hs : shpS S) (hr : rngS S) {c : Nat} (hc : c < S.1 31) (h : stays (R (18 + c))) : ∀ n, snR v0 a lv (S.1 23) (S.1 24) (S.1 31) R n (18 + c) = R (18 + c) := by
  intro n
  induction n with
  | zero => rfl
  | succ n ih =>
    show hourF v0 a lv (S.1 23) (S.1 24) (S.1 31) (snR v0 a lv (S.1 23) (S.1 24) (S.1 31) R n) (18 + c) = _
    rw [hour_stay hs hr hc (by rw [ih]; exact h), ih]
theorem sn_31 (hs : shpS S) (hr : rngS S) (h : ∀ c, c < S.1 31 → stays (R (18 + c))) : ∀ n, snR v0 a lv (S.1 23) (S.1 24) (S.1 31) R n 31 = R 31 := by
  intro n
  induction n with
  | zero => rfl
  | succ n ih =>
    show hourF v0 a lv (S.1 23) (S.1 24) (S.1 31) (snR v0 a lv (S.1 23) (S.1 24) (S.1 31) R n) 31 = _
    rw [hour_s31 hs hr (fun c hc => by rw [sn_stay hs hr hc (h c hc)]; exact h c hc), ih]
end HST
theorem sn_add (v0 : Nat → Int32) (a : Nat → Nat → Int32) (lv sp sl cr : Nat) (R : Nat → Int32) (m : Nat) : ∀ n, snR v0 a lv sp sl cr (snR v0 a lv sp sl cr R m) n = snR v0 a lv sp sl cr R (m + n) := by
  intro n
  induction n with
  | zero => rfl
  | succ n ih =>
    show hourF v0 a lv sp sl cr (snR v0 a lv sp sl cr (snR v0 a lv sp sl cr R m) n) = hourF v0 a lv sp sl cr (snR v0 a lv sp sl cr R (m + n))
    rw [ih]
theorem sn_1 (v0 : Nat → Int32) (a : Nat → Nat → Int32) (lv sp sl cr : Nat) (R : Nat → Int32) (n : Nat) : snR v0 a lv sp sl cr (snR v0 a lv sp sl cr R n) 1 = snR v0 a lv sp sl cr R (n + 1) := sn_add v0 a lv sp sl cr R n 1
theorem CX.q {S : SD} {lv : Nat} {a : Nat → Nat → Int32} {tv : Nat → Int32} {ta : Nat → Nat → Int32} (h : CX S lv a tv ta) : CX S lv (aQ a) tv ta := ⟨h.1.u55 _, h.2⟩
