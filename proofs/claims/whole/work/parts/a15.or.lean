/-! THE CLASS: orders of crossers, as numbers to the base 5 -/
def usd (s y j : Nat) : Bool := (List.range s).any (fun k => decide (dig y (s - 1 - k) = j))
theorem usd_iff {s y j : Nat} : usd s y j = true ↔ ∃ k, k < s ∧ dig y (s - 1 - k) = j := by
  unfold usd
  rw [List.any_eq_true]
  constructor
  · rintro ⟨k, h1, h2⟩; exact ⟨k, List.mem_range.mp h1, of_decide_eq_true h2⟩
  · rintro ⟨k, h1, h2⟩; exact ⟨k, List.mem_range.mpr h1, decide_eq_true h2⟩
theorem usd_s {s y i j : Nat} (hi : i < 5) : usd (s + 1) (5 * y + i) j = (usd s y j || decide (i = j)) := by
  rw [Bool.eq_iff_iff, Bool.or_eq_true, usd_iff, usd_iff, decide_eq_true_iff]
  constructor
  · rintro ⟨k, h1, h2⟩
    by_cases e : k = s
    · subst e; rw [show k + 1 - 1 - k = 0 by omega, dig_0 hi] at h2; exact Or.inr h2
    · rw [show s + 1 - 1 - k = (s - 1 - k) + 1 by omega, dig_s hi] at h2; exact Or.inl ⟨k, by omega, h2⟩
  · rintro (⟨k, h1, h2⟩ | h)
    · exact ⟨k, by omega, by rw [show s + 1 - 1 - k = (s - 1 - k) + 1 by omega, dig_s hi]; exact h2⟩
    · exact ⟨s, by omega, by rw [show s + 1 - 1 - s = 0 by omega, dig_0 hi]; exact h⟩
def okP (hm s y : Nat) : Prop := ∀ k, k < s → dig y (s - 1 - k) < hm ∧ ∀ i, i < k → dig y (s - 1 - i) ≠ dig y (s - 1 - k)
theorem okP_s {hm s y j : Nat} (hj : j < 5) (h : okP hm s y) (h1 : j < hm) (h2 : usd s y j = false) : okP hm (s + 1) (5 * y + j) := by
  have hlow : ∀ k, k < s → dig (5 * y + j) (s + 1 - 1 - k) = dig y (s - 1 - k) := fun k hk => by rw [show s + 1 - 1 - k = (s - 1 - k) + 1 by omega, dig_s hj]
  have htop : dig (5 * y + j) (s + 1 - 1 - s) = j := by rw [show s + 1 - 1 - s = 0 by omega, dig_0 hj]
  intro k hk
  by_cases e : k = s
  · subst e
    rw [htop]
    refine ⟨h1, fun i hi => ?_⟩
    rw [hlow i hi]
    intro z
    have := usd_iff.mpr ⟨i, hi, z⟩
    rw [h2] at this; cases this
  · rw [hlow k (by omega)]
    exact ⟨(h k (by omega)).1, fun i hi => by rw [hlow i (by omega)]; exact (h k (by omega)).2 i hi⟩
theorem us_ex (hm y : Nat) : ∀ k, ∃ m, m < 64 ∧ usF hm y k = nI m ∧ ∀ d, d < 6 → (m.testBit d = true ↔ ∃ i, i < k ∧ dig y (hm - 1 - i) = d) := by
  intro k
  induction k with
  | zero => exact ⟨0, by decide, rfl, fun d _ => ⟨fun h => absurd h (by rw [Nat.zero_testBit]; decide), fun ⟨i, h, _⟩ => absurd h (Nat.not_lt_zero _)⟩⟩
  | succ k ih =>
    obtain ⟨m, h1, h2, h3⟩ := ih
    have h5 := dig_lt y (hm - 1 - k)
    have ho := orT' h1 (show dig y (hm - 1 - k) < 6 by omega)
    refine ⟨m ||| 2 ^ dig y (hm - 1 - k), ho.2, ?_, fun d hd => ?_⟩
    · show usF hm y k ||| _ = _
      rw [h2, ho.1]
    · rw [Nat.testBit_or, Bool.or_eq_true, h3 d hd, Nat.testBit_two_pow, decide_eq_true_iff]
      constructor
      · rintro (⟨i, g1, g2⟩ | g)
        · exact ⟨i, by omega, g2⟩
        · exact ⟨k, by omega, g⟩
      · rintro ⟨i, g1, g2⟩
        by_cases e : i = k
        · subst e; exact Or.inr g2
        · exact Or.inl ⟨i, by omega, g2⟩
theorem okO_iff {hm y : Nat} : okO hm y ↔ okP hm hm y := by
  have key : ∀ k, (((usF hm y k >>> (nI (dig y (hm - 1 - k)) &&& 31)) &&& nI 1) = nI 1) ↔ ∃ i, i < k ∧ dig y (hm - 1 - i) = dig y (hm - 1 - k) := by
    intro k
    obtain ⟨m, h1, h2, h3⟩ := us_ex hm y k
    have h5 := dig_lt y (hm - 1 - k)
    rw [h2, bitT' h1 (by omega), h3 _ (by omega)]
  constructor
  · intro h k hk
    exact ⟨(h k hk).1, fun i hi z => (h k hk).2 ((key k).mpr ⟨i, hi, z⟩)⟩
  · intro h k hk
    refine ⟨(h k hk).1, fun z => ?_⟩
    obtain ⟨i, hi, e⟩ := (key k).mp z
    exact (h k hk).2 i hi e
theorem pre_dig {hm s k z y i : Nat} (hs : s + k = hm) (hz : z / 5 ^ k = y) (hi : i < s) : dig z (hm - 1 - i) = dig y (s - 1 - i) := by
  rw [show hm - 1 - i = k + (s - 1 - i) by omega, dig_add, hz]
theorem in_div {q k z : Nat} (h1 : q * 5 ^ k ≤ z) (h2 : z < (q + 1) * 5 ^ k) : z / 5 ^ k = q := by
  have hp : 0 < 5 ^ k := Nat.pow_pos (by decide)
  have := (Nat.le_div_iff_mul_le hp).mpr h1
  have := (Nat.div_lt_iff_lt_mul hp).mpr h2
  omega
theorem or_used {hm s k y j z : Nat} (hs : s + (k + 1) = hm) (hj : j < 5) (hu : usd s y j = true) (hz : z / 5 ^ k = 5 * y + j) : ¬ okO hm z := by
  intro h
  rw [okO_iff] at h
  obtain ⟨i, h1, h2⟩ := usd_iff.mp hu
  have e : ∀ m, m < s + 1 → dig z (hm - 1 - m) = dig (5 * y + j) (s + 1 - 1 - m) := fun m hm' => pre_dig (by omega) hz hm'
  refine (h s (by omega)).2 i h1 ?_
  rw [e s (by omega), e i (by omega), show s + 1 - 1 - s = 0 by omega, dig_0 hj, show s + 1 - 1 - i = (s - 1 - i) + 1 by omega, dig_s hj, h2]
theorem or_high {hm s k y j z : Nat} (hs : s + (k + 1) = hm) (hj : j < 5) (hu : hm ≤ j) (hz : z / 5 ^ k = 5 * y + j) : ¬ okO hm z := by
  intro h
  have := (h s (by omega)).1
  rw [show hm - 1 - s = k + 0 by omega, dig_add, hz, dig_0 hj] at this
  omega
theorem or_skip {P : Nat → Bool} {f : Nat → Int32} {p : Int32 × Int32} {n0 : Nat} : ∀ n1, n0 ≤ n1 → (∀ z, n0 ≤ z → z < n1 → P z = false) → itN (bfF P f) p n1 = itN (bfF P f) p n0 := by
  intro n1
  induction n1 with
  | zero => intro h _; rw [show n0 = 0 by omega]
  | succ n ih =>
    intro h hz
    by_cases e : n0 = n + 1
    · rw [e]
    · show bfF P f n (itN (bfF P f) p n) = _
      rw [ih (by omega) (fun z h1 h2 => hz z h1 (by omega))]
      exact if_neg (fun c => by rw [hz n (by omega) (by omega)] at c; exact absurd c.1 (by decide))
/-! the rows behind the first crossers sent -/
def prR (v0 : Nat → Int32) (a0 : Nat → Nat → Int32) (lv sp sl cr : Nat) (hc : Nat → Nat) (R : Nat → Int32) (s y : Nat) : Nat → Int32 := itN (fun k r => hourF v0 a0 lv sp sl cr (upd r (18 + hc (dig y (s - 1 - k))) (-3))) R s
theorem prR_s {v0 : Nat → Int32} {a0 : Nat → Nat → Int32} {lv sp sl cr : Nat} {hc : Nat → Nat} {R : Nat → Int32} {s y i : Nat} (hi : i < 5) : prR v0 a0 lv sp sl cr hc R (s + 1) (5 * y + i) = hourF v0 a0 lv sp sl cr (upd (prR v0 a0 lv sp sl cr hc R s y) (18 + hc i) (-3)) := by
  show hourF v0 a0 lv sp sl cr (upd (itN _ R s) (18 + hc (dig (5 * y + i) (s + 1 - 1 - s))) (-3)) = _
  rw [show s + 1 - 1 - s = 0 by omega, dig_0 hi]
  congr 2
  exact itN_congr s (fun k hk r => by rw [show s + 1 - 1 - k = (s - 1 - k) + 1 by omega, dig_s hi])
theorem tbR_pr {v0 : Nat → Int32} {a0 : Nat → Nat → Int32} {lv sp sl cr hm : Nat} {hc : Nat → Nat} {y : Nat} {R : Nat → Int32} : tbR v0 a0 lv sp sl cr hm hc y R hm = prR v0 a0 lv sp sl cr hc R hm y := itN_congr hm (fun k hk r => by unfold tbF; rw [if_pos hk])
theorem tbR_after {v0 : Nat → Int32} {a0 : Nat → Nat → Int32} {lv sp sl cr hm : Nat} {hc : Nat → Nat} {y : Nat} {R : Nat → Int32} : ∀ n, tbR v0 a0 lv sp sl cr hm hc y R (hm + n) = snR v0 a0 lv sp sl cr (tbR v0 a0 lv sp sl cr hm hc y R hm) n := by
  intro n
  induction n with
  | zero => rfl
  | succ n ih =>
    show tbF v0 a0 lv sp sl cr hm hc y (hm + n) (tbR v0 a0 lv sp sl cr hm hc y R (hm + n)) = hourF v0 a0 lv sp sl cr (snR v0 a0 lv sp sl cr (tbR v0 a0 lv sp sl cr hm hc y R hm) n)
    rw [ih]
    unfold tbF
    rw [if_neg (by omega)]
theorem prR_GR {S : SD} {H : Nat} {R : Nat → Int32} (hs : shpS S) (hr : rngS S) (v0 : Nat → Int32) (a : Nat → Nat → Int32) (lv : Nat) {hc : Nat → Nat} (h5 : ∀ j, hc j < 5) (h : GR S H R) (s y : Nat) : GR S (H + s) (prR v0 a lv (S.1 23) (S.1 24) (S.1 31) hc R s y) := by
  have key : ∀ n, GR S (H + n) (itN (fun k r => hourF v0 a lv (S.1 23) (S.1 24) (S.1 31) (upd r (18 + hc (dig y (s - 1 - k))) (-3))) R n) := by
    intro n
    induction n with
    | zero => exact h
    | succ n ih => exact GR.hours hs hr v0 a lv (ih.up (h5 _) (Or.inl rfl)) 1
  exact key s
/-! who is at home, by its number -/
abbrev jx (row : Nat → Int32) (c : Nat) : Nat := (hmL row c).length
theorem hmL_at {row : Nat → Int32} {c : Nat} (h : row (18 + c) = -2) : ∀ n, c < n → (hmL row n)[jx row c]? = some c := by
  intro n
  induction n with
  | zero => intro h; omega
  | succ n ih =>
    intro hc
    rw [hmL_s]
    by_cases e : c = n
    · subst e
      rw [if_pos h, List.getElem?_append_right (Nat.le_refl _), Nat.sub_self]
      rfl
    · have h2 := ih (by omega)
      split
      · rw [List.getElem?_append_left (List.getElem?_eq_some_iff.mp h2).1]; exact h2
      · exact h2
theorem hmL_D {row : Nat → Int32} {c n : Nat} (h : row (18 + c) = -2) (hc : c < n) : (hmL row n).getD (jx row c) 0 = c ∧ jx row c < (hmL row n).length := by
  have := hmL_at h n hc
  exact ⟨by rw [List.getD_eq_getElem?_getD, this]; rfl, (List.getElem?_eq_some_iff.mp this).1⟩
theorem hmL_5 (row : Nat → Int32) {n : Nat} (hn : n ≤ 5) (j : Nat) : (hmL row n).getD j 0 < 5 := by
  by_cases h : j < (hmL row n).length
  · have := hmL_lt h; omega
  · rw [List.getD_eq_getElem?_getD, List.getElem?_eq_none (by omega)]; decide
def lfB (row : Nat → Int32) (s y : Nat) (c : Nat) : Bool := decide (row (18 + c) = -2) && !(usd s y (jx row c))
theorem lfB_s {row : Nat → Int32} {s y c n : Nat} (h : row (18 + c) = -2) (hc : c < n) (hn : n ≤ 5) {c' : Nat} (hc' : c' < n) : lfB row (s + 1) (5 * y + jx row c) c' = (decide (c' ≠ c) && lfB row s y c') := by
  have h5 : jx row c < 5 := by have := (hmL_D h hc).2; have := hmL_len row n; omega
  unfold lfB
  rw [usd_s h5]
  by_cases h1 : row (18 + c') = -2
  · rw [decide_eq_true h1, Bool.true_and, Bool.true_and]
    by_cases e : c' = c
    · subst e; simp
    · rw [decide_eq_false (show ¬ jx row c = jx row c' from fun z => e (by rw [← (hmL_D h1 hc').1, ← z, (hmL_D h hc).1])), decide_eq_true e]; simp
  · rw [decide_eq_false h1]; simp
theorem cB_0 {P : Nat → Bool} {n : Nat} : cB P n = 0 ↔ ∀ k, k < n → P k = false := by
  constructor
  · intro h k hk
    by_cases z : P k = true
    · have := cB_pos z n hk; omega
    · simpa using z
  · intro h
    rw [cB_congr (Q := fun _ => false) n h]
    have : ∀ m, cB (fun _ => false) m = 0 := by
      intro m
      induction m with
      | zero => rfl
      | succ m ih => show (if false = true then _ else _) = _; rw [if_neg (by decide)]; exact ih
    exact this n
theorem mkN_z {P : Nat → Bool} {n : Nat} : mkN P n = 0 ↔ cB P n = 0 := by
  rw [cB_0]
  constructor
  · intro h k hk
    have h2 := mkN_bit P n k
    rw [h, Nat.zero_testBit, decide_eq_true hk, Bool.true_and] at h2
    exact h2.symm
  · exact fun h => mkN_0 n h
theorem cB_home (row : Nat → Int32) : ∀ n, cB (lfB row 0 0) n = (hmL row n).length := by
  intro n
  induction n with
  | zero => rfl
  | succ n ih =>
    rw [hmL_s]
    show (if lfB row 0 0 n = true then cB (lfB row 0 0) n + 1 else cB (lfB row 0 0) n) = _
    rw [ih]
    have e : lfB row 0 0 n = decide (row (18 + n) = -2) := by unfold lfB usd; simp
    rw [e]
    by_cases h : row (18 + n) = -2
    · rw [if_pos (decide_eq_true h), if_pos h, List.length_append]; rfl
    · rw [if_neg (by simpa using h), if_neg h]
theorem lf_rm {row : Nat → Int32} {s y c n : Nat} (hn : n ≤ 5) (hc : c < n) (h : lfB row s y c = true) : cB (lfB row (s + 1) (5 * y + jx row c)) n + 1 = cB (lfB row s y) n ∧ mkN (lfB row s y) n &&& (63 ^^^ 2 ^ c) = mkN (lfB row (s + 1) (5 * y + jx row c)) n := by
  have h1 : row (18 + c) = -2 := by unfold lfB at h; simp at h; exact h.1
  constructor
  · rw [cB_congr (Q := fun c' => decide (c' ≠ c) && lfB row s y c') n (fun k hk => lfB_s h1 hc hn hk), ← cB_rm h n hc]
  · rw [mkN_congr (Q := fun c' => decide (c' ≠ c) && lfB row s y c') n (fun k hk => lfB_s h1 hc hn hk)]
    apply Nat.eq_of_testBit_eq
    intro k
    rw [Nat.testBit_and, Nat.testBit_xor, mkN_bit, mkN_bit, Nat.testBit_two_pow]
    by_cases hk : k < n
    · rw [bit63 ⟨k, by omega⟩, decide_eq_true hk]
      by_cases e : k = c
      · subst e; simp
      · rw [decide_eq_false (show ¬ c = k from fun z => e z.symm), decide_eq_true e]; simp
    · rw [decide_eq_false hk]; simp
/-! the state that the class keeps as it tries orders -/
def orS (x : Int32) (v : Nat → Int32) (a : Nat → Nat → Int32) (lv sp sl cr : Nat) (L : List Nat) (n : Nat) (pv : Nat → Int32) (pa : Nat → Nat → Int32) : Prop := ((itN (orF v a lv sp sl cr L) (x, -1) n).2 < 0 → pv 14 = -1) ∧ (¬ (itN (orF v a lv sp sl cr L) (x, -1) n).2 < 0 → pv 14 = (itN (orF v a lv sp sl cr L) (x, -1) n).1 ∧ ∀ b, b < L.length → pa 5 b = nI (L.getD (dig (itN (orF v a lv sp sl cr L) (x, -1) n).2.toNatClampNeg (L.length - 1 - b)) 0))
def orQ (S : SD) (v : Nat → Int32) (a : Nat → Nat → Int32) (lv : Nat) (L : List Nat) (s y : Nat) (pa : Nat → Nat → Int32) : Prop := (∀ b, b < s → pa 13 b = nI (L.getD (dig y (s - 1 - b)) 0)) ∧ ∀ i, i ≤ s → CNt S (prR (vQ v a lv (nI 1)) (aQ a) lv (S.1 23) (S.1 24) (S.1 31) (fun j => L.getD j 0) (a 54) i (y / 5 ^ (s - i))) (shv (pa 9) i) (sha (pa 9) i)
theorem stF_oth {cf : Nat → Int32} {i i' : Nat} {nv : Nat → Int32} {na : Nat → Nat → Int32} (h : i' ≠ i) : NEq (shv cf i') (sha cf i') (shv (stF cf i nv na) i') (sha (stF cf i nv na) i') := by
  have key : ∀ k, k < 27 → stF cf i nv na (27 * i' + k) = cf (27 * i' + k) := fun k hk => stF_out (by omega)
  refine ⟨fun k hk => key k (by omega), fun j hj => ⟨?_, ?_⟩, fun j hj => ⟨?_, ?_⟩⟩
  · show stF cf i nv na (27 * i' + 5 + j) = cf (27 * i' + 5 + j); rw [Nat.add_assoc]; exact key _ (by omega)
  · show stF cf i nv na (27 * i' + 11 + j) = cf (27 * i' + 11 + j); rw [Nat.add_assoc]; exact key _ (by omega)
  · show stF cf i nv na (27 * i' + 17 + j) = cf (27 * i' + 17 + j); rw [Nat.add_assoc]; exact key _ (by omega)
  · show stF cf i nv na (27 * i' + 22 + j) = cf (27 * i' + 22 + j); rw [Nat.add_assoc]; exact key _ (by omega)
theorem div_pre {y j s i : Nat} (hj : j < 5) (hi : i ≤ s) : (5 * y + j) / 5 ^ (s + 1 - i) = y / 5 ^ (s - i) := by
  rw [show s + 1 - i = (s - i) + 1 by omega, Nat.pow_succ', ← Nat.div_div_eq_div_mul, show (5 * y + j) / 5 = y by omega]
theorem orQ.back {S : SD} {v : Nat → Int32} {a : Nat → Nat → Int32} {lv : Nat} {L : List Nat} {s y j : Nat} {pa : Nat → Nat → Int32} (hj : j < 5) (h : orQ S v a lv L (s + 1) (5 * y + j) pa) : orQ S v a lv L s y pa := by
  refine ⟨fun b hb => ?_, fun i hi => ?_⟩
  · rw [h.1 b (by omega), show s + 1 - 1 - b = (s - 1 - b) + 1 by omega, dig_s hj]
  · have := h.2 i (by omega)
    rw [div_pre hj hi] at this
    exact this
theorem orQ.down {S : SD} {v : Nat → Int32} {a : Nat → Nat → Int32} {lv : Nat} {L : List Nat} {s y j : Nat} {pa : Nat → Nat → Int32} {c : Nat} (hsl : S.1 24 ≤ 6) (hj : j < 5) (hc : L.getD j 0 = c) (h : orQ S v a lv L s y pa) {gv : Nat → Int32} {ga : Nat → Nat → Int32} (hg : CNt S (hourF (vQ v a lv (nI 1)) (aQ a) lv (S.1 23) (S.1 24) (S.1 31) (upd (prR (vQ v a lv (nI 1)) (aQ a) lv (S.1 23) (S.1 24) (S.1 31) (fun j => L.getD j 0) (a 54) s y) (18 + c) (-3))) gv ga) : orQ S v a lv L (s + 1) (5 * y + j) (va_up (va_up pa 9 (stF (pa 9) (s + 1) gv ga)) 13 (upd (pa 13) s (nI c))) := by
  refine ⟨fun b hb => ?_, fun i hi => ?_⟩
  · show upd (pa 13) s (nI c) b = _
    by_cases e : b = s
    · subst e; rw [upd_eq, show b + 1 - 1 - b = 0 by omega, dig_0 hj, hc]
    · rw [upd_ne e, h.1 b (by omega), show s + 1 - 1 - b = (s - 1 - b) + 1 by omega, dig_s hj]
  · show CNt S _ (shv (stF (pa 9) (s + 1) gv ga) i) (sha (stF (pa 9) (s + 1) gv ga) i)
    by_cases e : i = s + 1
    · subst e
      rw [Nat.sub_self, Nat.pow_zero, Nat.div_one, prR_s hj, hc]
      exact hg.eq hsl (stF_in _ _ _ _)
    · rw [div_pre hj (by omega)]
      exact (h.2 i (by omega)).eq hsl (stF_oth e)
