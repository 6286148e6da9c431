/-! THE CLASS: rows of sleepers, as numbers to the base 5 -/
theorem nx_or (x y : Nat) : nI x ||| nI y = nI (x ||| y) := by
  apply Int32.toBitVec_inj.mp
  rw [Int32.toBitVec_or]
  show BitVec.ofNat 32 x ||| BitVec.ofNat 32 y = BitVec.ofNat 32 (x ||| y)
  apply BitVec.eq_of_toNat_eq
  rw [BitVec.toNat_or, BitVec.toNat_ofNat, BitVec.toNat_ofNat, BitVec.toNat_ofNat, Nat.or_mod_two_pow]
theorem dig_0 {y j : Nat} (hj : j < 5) : dig (5 * y + j) 0 = j := by
  unfold dig; rw [Nat.pow_zero, Nat.div_one]; omega
theorem dig_s {y j m : Nat} (hj : j < 5) : dig (5 * y + j) (m + 1) = dig y m := by
  unfold dig
  rw [Nat.pow_succ', ← Nat.div_div_eq_div_mul, show (5 * y + j) / 5 = y by omega]
theorem dig_add (z k m : Nat) : dig z (k + m) = dig (z / 5 ^ k) m := by
  unfold dig
  rw [Nat.pow_add, Nat.div_div_eq_div_mul]
theorem dig_low {z q k m : Nat} (h : m < k) : dig (z + q * 5 ^ k) m = dig z m := by
  unfold dig
  have e : q * 5 ^ k = (5 * (q * 5 ^ (k - m - 1))) * 5 ^ m := by
    rw [show k = (k - m - 1) + 1 + m by omega, Nat.pow_add, Nat.pow_succ, show k - m - 1 + 1 + m - m - 1 = k - m - 1 by omega, ← Nat.mul_assoc, ← Nat.mul_assoc]
    congr 1
    simp only [Nat.mul_comm, Nat.mul_left_comm, Nat.mul_assoc]
  rw [e, Nat.add_mul_div_right _ _ (Nat.pow_pos (by decide)), Nat.add_mul_mod_self_left]
/-- who sleeps and lies on p, by the way z -/
def wst (S : SD) (R : Nat → Int32) (z p : Nat) : Nat := mkN (fun k => decide (dig z (S.1 24 - 1 - k) = p) && slpB R (nI (S.1 35)) k) (S.1 24)
def pst (S : SD) (R : Nat → Int32) (s y p : Nat) : Nat := mkN (fun k => decide (k < s) && (decide (dig y (s - 1 - k) = p) && slpB R (nI (S.1 35)) k)) (S.1 24)
theorem wst_64 {S : SD} {R : Nat → Int32} {z p : Nat} (h : S.1 24 ≤ 6) : wst S R z p < 64 := mkN_64 h
theorem pst_64 {S : SD} {R : Nat → Int32} {s y p : Nat} (h : S.1 24 ≤ 6) : pst S R s y p < 64 := mkN_64 h
theorem pst_bit {S : SD} {R : Nat → Int32} {s y p k : Nat} : (pst S R s y p).testBit k = (decide (k < S.1 24) && (decide (k < s) && (decide (dig y (s - 1 - k) = p) && slpB R (nI (S.1 35)) k))) := mkN_bit _ _ _
theorem pst_all {S : SD} {R : Nat → Int32} {z p : Nat} : pst S R (S.1 24) z p = wst S R z p := mkN_congr _ (fun k hk => by rw [show decide (k < S.1 24) = true from decide_eq_true hk, Bool.true_and])
theorem wst_sub {S : SD} {R : Nat → Int32} {z p : Nat} : wst S R z p &&& aslN S R = wst S R z p := by
  unfold wst aslN
  rw [mkN_and _ _ (Nat.le_refl _)]
  refine mkN_congr _ (fun k hk => ?_)
  cases slpB R (nI (S.1 35)) k <;> cases decide (dig z (S.1 24 - 1 - k) = p) <;> rfl
theorem ly_out {r : Nat → Int32} {n sl w j : Nat} (h : ¬ (12 ≤ j ∧ j < 12 + n)) : lyF r n sl w j = r j := if_neg h
theorem ly_in {r : Nat → Int32} {n sl w k : Nat} (h : k < n) : lyF r n sl w (12 + k) = nI (dig w (sl - 1 - k)) := by
  unfold lyF; rw [if_pos (by omega), show 12 + k - 12 = k by omega]
theorem mOn_ly {S : SD} {R : Nat → Int32} (hsl : S.1 24 ≤ 6) {z p : Nat} (hp : p < 5) : mOn S (lyF R (S.1 24) (S.1 24) z) (nI p) = wst S R z p := by
  unfold mOn wst
  refine mkN_congr _ (fun k hk => ?_)
  unfold onB
  rw [ly_in hk, slp_row (R := R) (ly_out (by omega)) (ly_out (by omega))]
  congr 1
  have h5 := dig_lt z (S.1 24 - 1 - k)
  exact decide_eq_decide.mpr (nI_eq (by omega) (by omega))
def lwV (S : SD) (lv : Nat) (a : Nat → Nat → Int32) (R : Nat → Int32) (z : Nat) : Nat → Int32 := itN (fun i m => if m ≤ bV S lv a R (nI (1 + i)) (wst S R z (1 + i)) then m else bV S lv a R (nI (1 + i)) (wst S R z (1 + i))) (bV S lv a R (nI 0) (wst S R z 0))
theorem bR_ly {S : SD} {lv : Nat} {a : Nat → Nat → Int32} (hT : TxR S lv a) (hs : shpS S) (hr : rngS S) (hlv : lv < 2) (R : Nat → Int32) (z : Nat) {p : Nat} (hp : p < 5) : bR a lv (S.1 24) (S.1 31) (lyF R (S.1 24) (S.1 24) z) (nI p) = bV S lv a R (nI p) (wst S R z p) := by
  have h6 := hs.1
  have h5 := hs.2.1
  rw [bears_bV hT hs hr hlv, mOn_ly h6 hp]
  exact bV_row (fun x hx => ly_out (by omega)) (ly_out (by omega)) (fun c hc => ly_out (by omega))
theorem lR_ly {S : SD} {lv : Nat} {a : Nat → Nat → Int32} (hT : TxR S lv a) (hs : shpS S) (hr : rngS S) (hlv : lv < 2) (R : Nat → Int32) (z : Nat) : lR a lv (S.1 23) (S.1 24) (S.1 31) (lyF R (S.1 24) (S.1 24) z) = lwV S lv a R z (S.1 23 - 1) := by
  have h5 := hr.1.2
  unfold lR least lwV
  have e0 : bears (va_up a 55 (lyF R (S.1 24) (S.1 24) z)) lv (S.1 24) (S.1 31) (nI 0) = bV S lv a R (nI 0) (wst S R z 0) := bR_ly hT hs hr hlv R z (by decide)
  rw [e0]
  refine itN_congr _ (fun i hi m => ?_)
  unfold leF
  have e1 : bears (va_up a 55 (lyF R (S.1 24) (S.1 24) z)) lv (S.1 24) (S.1 31) (nI (1 + i)) = bV S lv a R (nI (1 + i)) (wst S R z (1 + i)) := bR_ly hT hs hr hlv R z (by omega)
  rw [e1]
theorem wkV_n {S : SD} {lv : Nat} {a : Nat → Nat → Int32} (hT : TxR S lv a) (hs : shpS S) (hr : rngS S) (hlv : lv < 2) (R : Nat → Int32) (z : Nat) : ∀ n, ∃ k, k ≤ 1188 ∧ lwV S lv a R z n = nI k := by
  intro n
  induction n with
  | zero => exact bV_n hs hr R _ _
  | succ n ih =>
    show ∃ k, k ≤ 1188 ∧ (if lwV S lv a R z n ≤ _ then lwV S lv a R z n else _) = nI k
    split
    · exact ih
    · exact bV_n hs hr R _ _
/-- the best of the ways below n, as the class keeps it -/
def wkS (x : Int32) (a : Nat → Nat → Int32) (lv sp sl cr n : Nat) (pv : Nat → Int32) (pa : Nat → Nat → Int32) : Prop := ((itN (wkF a lv sp sl cr) (x, -1) n).2 < 0 → pv 0 = -1) ∧ (¬ (itN (wkF a lv sp sl cr) (x, -1) n).2 < 0 → pv 0 = (itN (wkF a lv sp sl cr) (x, -1) n).1 ∧ ∀ b, b < sl → pa 4 b = nI (dig (itN (wkF a lv sp sl cr) (x, -1) n).2.toNatClampNeg (sl - 1 - b)))
theorem wkF_bf (a : Nat → Nat → Int32) (lv sp sl cr : Nat) : wkF a lv sp sl cr = bfF (fun y => decide (okW sl sp y)) (fun y => wkV a lv sp sl cr y) := by
  funext y p
  unfold wkF bfF
  congr 1
  simp only [decide_eq_true_eq]
theorem wk_skip {a : Nat → Nat → Int32} {lv sp sl cr n0 : Nat} (x : Int32) : ∀ n1, n0 ≤ n1 → n1 < 2 ^ 31 → (∀ z, n0 ≤ z → z < n1 → okW sl sp z → ∃ z', z' < n0 ∧ okW sl sp z' ∧ wkV a lv sp sl cr z' = wkV a lv sp sl cr z) → itN (wkF a lv sp sl cr) (x, -1) n1 = itN (wkF a lv sp sl cr) (x, -1) n0 := by
  intro n1
  induction n1 with
  | zero => intro h _ _; rw [show n0 = 0 by omega]
  | succ n ih =>
    intro h h31 hz
    by_cases e : n0 = n + 1
    · rw [e]
    · have e1 := ih (by omega) (by omega) (fun z h1 h2 => hz z h1 (by omega))
      show wkF a lv sp sl cr n (itN (wkF a lv sp sl cr) (x, -1) n) = _
      rw [e1]
      refine if_neg (fun c => ?_)
      obtain ⟨z', h1, h2, h3⟩ := hz n (by omega) (by omega) c.1
      have hb := bf_ex (fun y => decide (okW sl sp y)) (fun y => wkV a lv sp sl cr y) x n0 (by omega)
      rw [← wkF_bf] at hb
      rcases hb with ⟨g1, -⟩ | ⟨w, g1, -, g3, g4, -⟩
      · have := g1 z' h1
        simp only [decide_eq_false_iff_not] at this
        exact this h2
      · rw [g3] at c
        rcases c.2 with c2 | c2
        · exact nI_nn (by omega) c2
        · have := g4 z' h1 (decide_eq_true h2)
          rw [← h3] at c2
          exact Int32.lt_irrefl (Int32.lt_of_lt_of_le c2 this)
/-- the way z with the s-th sleeper on the first span -/
theorem way_0 {S : SD} {R : Nat → Int32} {s k y z : Nat} (hsl : s + (k + 1) = S.1 24) (h1 : (5 * y + 1) * 5 ^ k ≤ z) (h2 : z < (5 * y + 5) * 5 ^ k) : ∃ z', z' < (5 * y + 1) * 5 ^ k ∧ ∀ b, b < S.1 24 → (b ≠ s → dig z' (S.1 24 - 1 - b) = dig z (S.1 24 - 1 - b)) ∧ (b = s → dig z' (S.1 24 - 1 - b) = 0) := by
  have hp : 0 < 5 ^ k := Nat.pow_pos (by decide)
  have hq1 : 5 * y + 1 ≤ z / 5 ^ k := (Nat.le_div_iff_mul_le hp).mpr h1
  have hq2 : z / 5 ^ k < 5 * y + 5 := (Nat.div_lt_iff_lt_mul hp).mpr h2
  obtain ⟨q, hq⟩ : ∃ q, z / 5 ^ k = 5 * y + q := ⟨z / 5 ^ k - 5 * y, by omega⟩
  have hz : z = (5 * y * 5 ^ k + z % 5 ^ k) + q * 5 ^ k := by
    have := Nat.div_add_mod z (5 ^ k)
    rw [hq, Nat.mul_add, Nat.mul_comm (5 ^ k) (5 * y), Nat.mul_comm (5 ^ k) q] at this
    omega
  have hm : z % 5 ^ k < 5 ^ k := Nat.mod_lt _ hp
  have hd0 : (5 * y * 5 ^ k + z % 5 ^ k) / 5 ^ k = 5 * y := by
    rw [Nat.add_comm, Nat.add_mul_div_right _ _ hp, Nat.div_eq_of_lt hm, Nat.zero_add]
  refine ⟨5 * y * 5 ^ k + z % 5 ^ k, by rw [Nat.add_mul, Nat.one_mul]; omega, fun b hb => ⟨fun hne => ?_, fun e => ?_⟩⟩
  · rcases Nat.lt_or_ge (S.1 24 - 1 - b) k with hlt | hge
    · conv => rhs; rw [hz]
      exact (dig_low hlt).symm
    · rw [show S.1 24 - 1 - b = k + ((s - 1 - b) + 1) by omega, dig_add (5 * y * 5 ^ k + z % 5 ^ k) k, dig_add z k, hd0, hq, dig_s (j := q) (by omega)]
      exact dig_s (y := y) (j := 0) (by decide)
  · subst e
    rw [show S.1 24 - 1 - b = k + 0 by omega, dig_add, hd0]
    exact dig_0 (y := y) (j := 0) (by decide)
theorem wk_awake {S : SD} {lv : Nat} {a : Nat → Nat → Int32} (hT : TxR S lv (aQ a)) (hs : shpS S) (hr : rngS S) (hlv : lv < 2) (x : Int32) {s k y : Nat} (hsl : s + (k + 1) = S.1 24) (hy : (5 * y + 5) * 5 ^ k < 2 ^ 31) (hw : slpB (a 54) (nI (S.1 35)) s = false) : itN (wkF a lv (S.1 23) (S.1 24) (S.1 31)) (x, -1) ((5 * y + 5) * 5 ^ k) = itN (wkF a lv (S.1 23) (S.1 24) (S.1 31)) (x, -1) ((5 * y + 1) * 5 ^ k) := by
  refine wk_skip x _ (Nat.mul_le_mul_right _ (by omega)) hy (fun z h1 h2 hok => ?_)
  obtain ⟨z', g1, g2⟩ := way_0 (S := S) (R := a 54) hsl h1 h2
  refine ⟨z', g1, fun i hi => ?_, ?_⟩
  · by_cases e : i = s
    · rw [(g2 i hi).2 e]; exact hr.1.1
    · rw [(g2 i hi).1 e]; exact hok i hi
  · show lR (aQ a) lv (S.1 23) (S.1 24) (S.1 31) _ = lR (aQ a) lv (S.1 23) (S.1 24) (S.1 31) _
    rw [lR_ly hT hs hr hlv, lR_ly hT hs hr hlv]
    have e : ∀ p, wst S (a 54) z' p = wst S (a 54) z p := fun p => mkN_congr _ (fun j hj => by
      by_cases e : j = s
      · rw [e, hw, Bool.and_false, Bool.and_false]
      · rw [(g2 j hj).1 e])
    unfold lwV
    simp only [e]
theorem wk_top {S : SD} {lv : Nat} {a : Nat → Nat → Int32} (hs6 : S.1 24 ≤ 6) (hr : rngS S) (x : Int32) {s k y : Nat} (hsl : s + (k + 1) = S.1 24) (hy : (5 * y + 5) * 5 ^ k < 2 ^ 31) : itN (wkF a lv (S.1 23) (S.1 24) (S.1 31)) (x, -1) ((5 * y + 5) * 5 ^ k) = itN (wkF a lv (S.1 23) (S.1 24) (S.1 31)) (x, -1) ((5 * y + S.1 23) * 5 ^ k) := by
  have h5 := hr.1.2
  have hp : 0 < 5 ^ k := Nat.pow_pos (by decide)
  refine wk_skip x _ (Nat.mul_le_mul_right _ (by omega)) hy (fun z h1 h2 hok => ?_)
  exfalso
  have hq1 : 5 * y + S.1 23 ≤ z / 5 ^ k := (Nat.le_div_iff_mul_le hp).mpr h1
  have hq2 : z / 5 ^ k < 5 * y + 5 := (Nat.div_lt_iff_lt_mul hp).mpr h2
  have h3 := hok s (by omega)
  rw [show S.1 24 - 1 - s = k + 0 by omega, dig_add, show z / 5 ^ k = 5 * y + (z / 5 ^ k - 5 * y) by omega, dig_0 (by omega)] at h3
  omega
/-! the state that the class keeps as it tries rows -/
def brn (S : SD) (lv : Nat) (a : Nat → Nat → Int32) (f : Nat → Int32) : Prop := ∀ p, p < S.1 23 → ∀ m, m &&& aslN S (a 54) = m → f (p * 64 + m) = bV S lv (aQ a) (a 54) (nI p) m
def TRp (S : SD) (lv : Nat) (a : Nat → Nat → Int32) (s y : Nat) (pa : Nat → Nat → Int32) : Prop := (∀ p, p < S.1 23 → pa 11 p = nI (pst S (a 54) s y p)) ∧ (∀ b, b < s → pa 10 b = nI (dig y (s - 1 - b))) ∧ brn S lv a (pa 12)
theorem asl_2 {S : SD} {R : Nat → Int32} {s : Nat} (hs : s < S.1 24) : aslN S R &&& 2 ^ s = if slpB R (nI (S.1 35)) s = true then 2 ^ s else 0 := by
  apply Nat.eq_of_testBit_eq
  intro k
  rw [Nat.testBit_and, Nat.testBit_two_pow]
  unfold aslN
  rw [mkN_bit]
  by_cases e : s = k
  · subst e
    rw [show decide (s < S.1 24) = true from decide_eq_true hs, Bool.true_and, decide_eq_true rfl, Bool.and_true]
    split
    · rename_i h; rw [h, Nat.testBit_two_pow_self]
    · rename_i h; rw [Nat.zero_testBit]; simpa using h
  · rw [decide_eq_false e, Bool.and_false]
    split
    · rw [Nat.testBit_two_pow, decide_eq_false e]
    · rw [Nat.zero_testBit]
theorem bit_2 {S : SD} {R : Nat → Int32} {s k : Nat} (hs : s < S.1 24) : (aslN S R &&& 2 ^ s).testBit k = (decide (k = s) && slpB R (nI (S.1 35)) s) := by
  rw [asl_2 hs]
  split
  · rename_i h; rw [Nat.testBit_two_pow, h, Bool.and_true]; exact decide_eq_decide.mpr ⟨fun e => e.symm, fun e => e.symm⟩
  · rename_i h; rw [Nat.zero_testBit, show slpB R (nI (S.1 35)) s = false by simpa using h, Bool.and_false]
theorem pst_s {S : SD} {R : Nat → Int32} {s y j p : Nat} (hs : s < S.1 24) (hj : j < 5) : pst S R (s + 1) (5 * y + j) p = if p = j then pst S R s y p ||| (aslN S R &&& 2 ^ s) else pst S R s y p := by
  have key : ∀ k, (pst S R (s + 1) (5 * y + j) p).testBit k = ((pst S R s y p).testBit k || (decide (p = j) && (decide (k = s) && slpB R (nI (S.1 35)) s))) := by
    intro k
    rw [pst_bit, pst_bit]
    rcases Nat.lt_trichotomy k s with h | h | h
    · rw [show s + 1 - 1 - k = (s - 1 - k) + 1 by omega, dig_s hj, decide_eq_false (show ¬ k = s by omega), decide_eq_true (show k < s + 1 by omega), decide_eq_true h]
      simp
    · subst h
      rw [show k + 1 - 1 - k = 0 by omega, dig_0 hj, decide_eq_true (show k < k + 1 by omega), decide_eq_false (show ¬ k < k by omega), decide_eq_true hs]
      by_cases e : j = p
      · subst e; simp
      · rw [decide_eq_false e, decide_eq_false (show ¬ p = j from fun z => e z.symm)]; simp
    · rw [decide_eq_false (show ¬ k < s + 1 by omega), decide_eq_false (show ¬ k < s by omega), decide_eq_false (show ¬ k = s by omega)]
      simp
  apply Nat.eq_of_testBit_eq
  intro k
  rw [key]
  split
  · rename_i e; rw [decide_eq_true e, Nat.testBit_or, bit_2 hs, Bool.true_and]
  · rename_i e; rw [decide_eq_false e, Bool.false_and, Bool.or_false]
theorem pst_back {S : SD} {R : Nat → Int32} {s y j : Nat} (h6 : S.1 24 ≤ 6) (hs : s < S.1 24) (hj : j < 5) : pst S R (s + 1) (5 * y + j) j &&& (63 ^^^ (aslN S R &&& 2 ^ s)) = pst S R s y j := by
  rw [pst_s hs hj, if_pos rfl]
  apply Nat.eq_of_testBit_eq
  intro k
  rw [Nat.testBit_and, Nat.testBit_or, Nat.testBit_xor, bit_2 hs, pst_bit]
  by_cases hk : k < 6
  · rw [bit63 ⟨k, hk⟩]
    by_cases e : k = s
    · subst e; rw [decide_eq_false (show ¬ k < k by omega)]; cases slpB R (nI (S.1 35)) k <;> simp
    · rw [decide_eq_false e]; simp
  · rw [decide_eq_false (show ¬ k < S.1 24 by omega), decide_eq_false (show ¬ k = s by omega)]; simp
theorem TRp.down {S : SD} {lv : Nat} {a : Nat → Nat → Int32} {s y j : Nat} {pa : Nat → Nat → Int32} (h : TRp S lv a s y pa) (hs : s < S.1 24) (hj : j < 5) : TRp S lv a (s + 1) (5 * y + j) (va_up (va_up pa 10 (upd (pa 10) s (nI j))) 11 (upd (pa 11) j (nI (pst S (a 54) s y j ||| (aslN S (a 54) &&& 2 ^ s))))) := by
  obtain ⟨h1, h2, h3⟩ := h
  refine ⟨fun p hp => ?_, fun b hb => ?_, h3⟩
  · show upd (pa 11) j _ p = _
    rw [pst_s hs hj]
    by_cases e : p = j
    · subst e; rw [upd_eq, if_pos rfl]
    · rw [upd_ne e, if_neg e]; exact h1 p hp
  · show upd (pa 10) s (nI j) b = _
    by_cases e : b = s
    · subst e; rw [upd_eq, show b + 1 - 1 - b = 0 by omega, dig_0 hj]
    · rw [upd_ne e, show s + 1 - 1 - b = (s - 1 - b) + 1 by omega, dig_s hj]; exact h2 b (by omega)
theorem TRp.back {S : SD} {lv : Nat} {a : Nat → Nat → Int32} {s y j : Nat} {pa : Nat → Nat → Int32} (h : TRp S lv a (s + 1) (5 * y + j) pa) (h6 : S.1 24 ≤ 6) (hs : s < S.1 24) (hj : j < 5) : TRp S lv a s y (va_up pa 11 (upd (pa 11) j (nI (pst S (a 54) (s + 1) (5 * y + j) j &&& (63 ^^^ (aslN S (a 54) &&& 2 ^ s)))))) := by
  obtain ⟨h1, h2, h3⟩ := h
  refine ⟨fun p hp => ?_, fun b hb => ?_, h3⟩
  · show upd (pa 11) j _ p = _
    by_cases e : p = j
    · subst e; rw [upd_eq, pst_back h6 hs hj]
    · rw [upd_ne e, h1 p hp, pst_s hs hj, if_neg e]
  · show pa 10 b = _
    rw [h2 b (by omega), show s + 1 - 1 - b = (s - 1 - b) + 1 by omega, dig_s hj]
