/-! THE CLASS: a text, a night, the rules over them -/
def rW (se : Nat → Int32) (tv : Nat → Int32) (ta : Nat → Nat → Int32) (tb : Nat → Nat → Int64) (nv : Nat → Int32) (na : Nat → Nat → Int32) : px_W := [.inr (4, [.ref 2, .ref 1]), .inl (.int, 16, .inl se), .inr (7, [.int (tv 0), .int (tv 1), .int (tv 2), .int (tv 3), .int (tv 4), .int (tv 5), .int (tv 6), .ref 3, .ref 4, .ref 5, .ref 6, .ref 7, .ref 8, .ref 9, .ref 10, .ref 11, .ref 12, .ref 13]), .inl (.long, 6, .inr (.inl (tb 7))), .inl (.int, 6, .inl (ta 8)), .inl (.int, 6, .inl (ta 9)), .inl (.int, 6, .inl (ta 10)), .inl (.int, 6, .inl (ta 11)), .inl (.int, 6, .inl (ta 12)), .inl (.long, 5, .inr (.inl (tb 13))), .inl (.int, 5, .inl (ta 14)), .inl (.int, 5, .inl (ta 15)), .inl (.int, 5, .inl (ta 16)), .inr (0, [.ref 14, .ref 15, .ref 16, .int (tv 20)]), .inl (.int, 404, .inl (ta 20)), .inl (.int, 3, .inl (ta 21)), .inl (.int, 32, .inl (ta 22)), .inr (1, [.int (nv 0), .int (nv 1), .int (nv 2), .int (nv 3), .int (nv 4), .ref 18, .ref 19, .ref 20, .ref 21]), .inl (.int, 6, .inl (na 5)), .inl (.int, 6, .inl (na 6)), .inl (.int, 5, .inl (na 7)), .inl (.int, 5, .inl (na 8))]
def tW (tv : Nat → Int32) (ta : Nat → Nat → Int32) (tb : Nat → Nat → Int64) : px_W := [.inr (7, [.int (tv 0), .int (tv 1), .int (tv 2), .int (tv 3), .int (tv 4), .int (tv 5), .int (tv 6), .ref 1, .ref 2, .ref 3, .ref 4, .ref 5, .ref 6, .ref 7, .ref 8, .ref 9, .ref 10, .ref 11]), .inl (.long, 6, .inr (.inl (tb 7))), .inl (.int, 6, .inl (ta 8)), .inl (.int, 6, .inl (ta 9)), .inl (.int, 6, .inl (ta 10)), .inl (.int, 6, .inl (ta 11)), .inl (.int, 6, .inl (ta 12)), .inl (.long, 5, .inr (.inl (tb 13))), .inl (.int, 5, .inl (ta 14)), .inl (.int, 5, .inl (ta 15)), .inl (.int, 5, .inl (ta 16)), .inr (0, [.ref 12, .ref 13, .ref 14, .int (tv 20)]), .inl (.int, 404, .inl (ta 20)), .inl (.int, 3, .inl (ta 21)), .inl (.int, 32, .inl (ta 22))]
def nW (nv : Nat → Int32) (na : Nat → Nat → Int32) : px_W := [.inr (1, [.int (nv 0), .int (nv 1), .int (nv 2), .int (nv 3), .int (nv 4), .ref 1, .ref 2, .ref 3, .ref 4]), .inl (.int, 6, .inl (na 5)), .inl (.int, 6, .inl (na 6)), .inl (.int, 5, .inl (na 7)), .inl (.int, 5, .inl (na 8))]
/-- numbers below n that P names, as bits -/
def mkN (P : Nat → Bool) : Nat → Nat
  | 0 => 0
  | n + 1 => if P n = true then mkN P n + 2 ^ n else mkN P n
theorem mkN_lt (P : Nat → Bool) : ∀ n, mkN P n < 2 ^ n := by
  intro n
  induction n with
  | zero => exact Nat.one_pos
  | succ n ih =>
    unfold mkN
    rw [Nat.pow_succ]
    split <;> omega
theorem mkN_bit (P : Nat → Bool) : ∀ n k, (mkN P n).testBit k = (decide (k < n) && P k) := by
  intro n
  induction n with
  | zero => intro k; rw [show mkN P 0 = 0 from rfl, Nat.zero_testBit]; simp
  | succ n ih =>
    intro k
    have hl := mkN_lt P n
    unfold mkN
    by_cases hp : P n = true
    · rw [if_pos hp]
      have e : mkN P n + 2 ^ n = 2 ^ n + mkN P n := Nat.add_comm _ _
      rw [e]
      rcases Nat.lt_trichotomy k n with h | h | h
      · rw [Nat.testBit_two_pow_add_gt h, ih]; simp [h, show k < n + 1 by omega]
      · subst h; rw [Nat.testBit_two_pow_add_eq, ih]; simp [hp]
      · rw [Nat.testBit_lt_two_pow (Nat.lt_of_lt_of_le (show 2 ^ n + mkN P n < 2 ^ (n + 1) by rw [Nat.pow_succ]; omega) (Nat.pow_le_pow_right (by decide) h))]
        simp [show ¬ k < n + 1 by omega]
    · rw [if_neg hp, ih]
      by_cases h : k < n
      · simp [h, show k < n + 1 by omega]
      · by_cases h2 : k = n
        · subst h2; simp [show P k = false by simpa using hp]
        · simp [h, show ¬ k < n + 1 by omega]
theorem mkN_or {P : Nat → Bool} {n : Nat} (h : n < 6) : nI (mkN P n) ||| (nI 1 <<< (nI n &&& 31)) = nI (mkN P n + 2 ^ n) := or_bit ⟨n, h⟩ ⟨mkN P n, mkN_lt P n⟩
theorem pow6 {n : Nat} (h : n ≤ 6) : 2 ^ n ≤ 64 := by
  have := Nat.pow_le_pow_right (show 0 < 2 by decide) h
  exact this
theorem mkN_64 {P : Nat → Bool} {n : Nat} (h : n ≤ 6) : mkN P n < 64 := Nat.lt_of_lt_of_le (mkN_lt P n) (pow6 h)
theorem it_mk {f : Nat → Int32 → Int32} {P : Nat → Bool} (hf : ∀ i s, f i s = if P i = true then s ||| (nI 1 <<< (nI i &&& 31)) else s) : ∀ n, n ≤ 6 → itN f 0 n = nI (mkN P n) := by
  intro n
  induction n with
  | zero => intro _; rfl
  | succ n ih =>
    intro h
    show f n (itN f 0 n) = nI (if P n = true then _ else _)
    rw [ih (by omega), hf]
    split
    · rw [mkN_or (by omega)]
    · rfl
def slpB (R : Nat → Int32) (dawn : Int32) (b : Nat) : Bool := decide (slp R dawn b)
theorem ite_dec {α : Type} {P : Prop} [Decidable P] (x y : α) : (if P then x else y) = if decide P = true then x else y := by
  by_cases h : P
  · rw [if_pos h, if_pos (decide_eq_true h)]
  · rw [if_neg h, if_neg (by simpa using h)]
theorem asl_mk (R : Nat → Int32) (dawn : Int32) {n : Nat} (h : n ≤ 6) : itN (asleepF R dawn) 0 n = nI (mkN (slpB R dawn) n) := it_mk (f := asleepF R dawn) (P := slpB R dawn) (fun i s => ite_dec _ _) n h
theorem bits_mk (R : Nat → Int32) (fr : Nat) (so : Int32) {n : Nat} (h : n ≤ 6) : itN (bitsF R fr so) 0 n = nI (mkN (fun k => decide (R (fr + k) = so)) n) := it_mk (f := bitsF R fr so) (P := fun k => decide (R (fr + k) = so)) (fun i s => ite_dec _ _) n h
def prM (e : Option (Nat × Nat)) : Nat := match e with
  | some z => 2 ^ z.1 ||| 2 ^ z.2
  | none => 0
def CTx (S : SD) (tv : Nat → Int32) (ta : Nat → Nat → Int32) : Prop :=
  (tv 0 = nI (S.1 23) ∧ tv 1 = nI (S.1 24) ∧ tv 2 = nI (S.1 30) ∧ tv 3 = nI (S.1 31) ∧ tv 4 = nI (S.1 35) ∧ tv 5 = nI (S.1 36) ∧ tv 6 = nI (S.1 37))
  ∧ (∀ i, i < S.1 24 → ta 8 i = nI (S.2.1 25 i) ∧ ta 9 i = nI (S.2.1 26 i) ∧ ta 10 i = nI (S.2.1 27 i) ∧ ta 11 i = nI (S.2.1 28 i))
  ∧ (∀ i, i < S.1 31 → ta 14 i = nI (S.2.1 32 i) ∧ ta 15 i = nI (S.2.1 33 i) ∧ ta 16 i = nI (S.2.1 34 i))
  ∧ (∀ i e, S.2.2.2.1[i]? = some e → ta 12 i = nI (prM e))
  ∧ ∃ sz, tv 20 = nI sz ∧ sz ≤ 404 ∧ ∀ k, k < 3 → ∃ p, ta 21 k = nI p ∧ sgC (ta 20) p (lwC k (S.2.2.2.2 k) p) ∧ p + (lwC k (S.2.2.2.2 k) p).length ≤ sz
def CNt (S : SD) (R : Nat → Int32) (nv : Nat → Int32) (na : Nat → Nat → Int32) : Prop :=
  nv 0 = R 28 ∧ nv 1 = R 29 ∧ nv 2 = R 30 ∧ nv 3 = R 31 ∧ nv 4 = nI (mkN (slpB R (nI (S.1 35))) (S.1 24))
  ∧ (∀ i, i < S.1 24 → na 5 i = R i ∧ na 6 i = R (12 + i)) ∧ (∀ c, c < 5 → na 7 c = R (18 + c) ∧ na 8 c = R (23 + c))
/-- a text, told to the reference (side lv) and to the class -/
def CX (S : SD) (lv : Nat) (a : Nat → Nat → Int32) (tv : Nat → Int32) (ta : Nat → Nat → Int32) : Prop := TxR S lv a ∧ shpS S ∧ rngS S ∧ lv < 2 ∧ CTx S tv ta
section CXS
variable {S : SD} {lv : Nat} {a : Nat → Nat → Int32} {tv : Nat → Int32} {ta : Nat → Nat → Int32}
theorem CX.cr (h : CX S lv a tv ta) : tv 3 = nI (S.1 31) ∧ S.1 31 ≤ 5 := ⟨h.2.2.2.2.1.2.2.2.1, h.2.1.2.1⟩
theorem CX.sl (h : CX S lv a tv ta) : tv 1 = nI (S.1 24) ∧ S.1 24 ≤ 6 := ⟨h.2.2.2.2.1.2.1, h.2.1.1⟩
theorem CX.sp (h : CX S lv a tv ta) : tv 0 = nI (S.1 23) ∧ 1 ≤ S.1 23 ∧ S.1 23 ≤ 5 := ⟨h.2.2.2.2.1.1, h.2.2.1.1.1, h.2.2.1.1.2⟩
theorem CX.pr (h : CX S lv a tv ta) : tv 2 = nI (S.1 30) ∧ S.1 30 ≤ 6 ∧ S.2.2.2.1.length = S.1 30 := ⟨h.2.2.2.2.1.2.2.1, h.2.1.2.2.1, h.2.1.2.2.2.1⟩
theorem CX.dw (h : CX S lv a tv ta) : tv 4 = nI (S.1 35) ∧ S.1 35 ≤ 99 ∧ a 35 lv = nI (S.1 35) := ⟨h.2.2.2.2.1.2.2.2.2.1, h.2.2.1.2.1, h.1.1 35 (by decide)⟩
theorem CX.bo (h : CX S lv a tv ta) : tv 5 = nI (S.1 36) ∧ S.1 36 ≤ 99 ∧ a 36 lv = nI (S.1 36) := ⟨h.2.2.2.2.1.2.2.2.2.2.1, h.2.2.1.2.2.1, h.1.1 36 (by decide)⟩
theorem CX.sd (h : CX S lv a tv ta) : tv 6 = nI (S.1 37) ∧ S.1 37 ≤ 9999 ∧ a 37 lv = nI (S.1 37) := ⟨h.2.2.2.2.1.2.2.2.2.2.2, h.2.2.1.2.2.2.1, h.1.1 37 (by decide)⟩
theorem CX.cro (h : CX S lv a tv ta) {c : Nat} (hc : c < S.1 31) : ta 14 c = a 32 (5 * lv + c) ∧ ta 15 c = a 33 (5 * lv + c) ∧ ta 16 c = a 34 (5 * lv + c) := by
  have h1 := h.2.2.2.2.2.2.1 c hc
  have h2 := h.1.2.2.1 c hc
  exact ⟨h1.1.trans (h2 32 (by decide)).symm, h1.2.1.trans (h2 33 (by decide)).symm, h1.2.2.trans (h2 34 (by decide)).symm⟩
theorem CX.slo (h : CX S lv a tv ta) {c : Nat} (hc : c < S.1 24) : ta 8 c = a 25 (6 * lv + c) ∧ ta 9 c = a 26 (6 * lv + c) ∧ ta 10 c = a 27 (6 * lv + c) ∧ ta 11 c = a 28 (6 * lv + c) := by
  have h1 := h.2.2.2.2.2.1 c hc
  have h2 := h.1.2.1 c hc
  exact ⟨h1.1.trans (h2 25 (by decide)).symm, h1.2.1.trans (h2 26 (by decide)).symm, h1.2.2.1.trans (h2 27 (by decide)).symm, h1.2.2.2.trans (h2 28 (by decide)).symm⟩
end CXS
set_option maxHeartbeats 400000 in
theorem cc_loadOn (d : Nat) (se : Nat → Int32) (tv : Nat → Int32) (ta : Nat → Nat → Int32) (tb : Nat → Nat → Int64) (nv : Nat → Int32) (na : Nat → Nat → Int32) (S : SD) (lv : Nat) (a : Nat → Nat → Int32) (hX : CX S lv a tv ta) (R : Nat → Int32) (hN : CNt S R nv na) (p : Int32) : Con mX4_loadOn d [.ref 0, .ref 17, .int p] (rW se tv ta tb nv na) (fun r W' => W' = rW se tv ta tb nv na ∧ r = some (.int (itN (loadF R (a 32) lv p) 0 (S.1 31)))) := by
  obtain ⟨hcr, hcr2⟩ := hX.cr
  obtain ⟨hsl, hsl2⟩ := hX.sl
  obtain ⟨hsp, hsp1, hsp2⟩ := hX.sp
  have hWh := hN.2.2.2.2.2.2
  refine Con.of (by decide) (Nat.le_of_ble_eq_true rfl) ?_
  refine XG.blk tX4_loadOn_ok 0 4 (pc' := 5) (pl' := [some (.ref 0), some (.ref 17), some (.int p), some (.int (nI 0)), some (.int (nI 0))]) (st' := []) (W1 := (rW se tv ta tb nv na)) (bs := []) rfl rfl rfl ?_
  refine px_for (S.1 31) (fun i => XG mX4_loadOn _ 0 0 5 [some (.ref 0), some (.ref 17), some (.int p), some (.int (itN (loadF R (a 32) lv p) 0 i)), some (.int (nI i))] [] (rW se tv ta tb nv na)) ?_ ?_ 0 (Nat.zero_le _)
  · skip
    have q1 : (tv 3) = (nI (S.1 31)) := hcr
    refine XG.blk tX4_loadOn_ok 4 4 (pc' := 14) (pl' := [some (.ref 0), some (.ref 17), some (.int p), some (.int (itN (loadF R (a 32) lv p) 0 (S.1 31))), some (.int (nI (S.1 31)))]) (st' := [(.int (tv 3)), (.int (nI (S.1 31)))]) (W1 := (rW se tv ta tb nv na)) (bs := []) rfl rfl rfl ?_
    simp only [q1]
    refine XG.br eX4_loadOn_14 (P := (nI (S.1 31)) ≤ (nI (S.1 31))) (r := []) rfl (tgt := 51) (by decide) (fun h14 => ?_) (fun h14 => ?_)
    · skip
      have g14 : (S.1 31) ≤ (S.1 31) := (nI_leI (a := (S.1 31)) (b := (S.1 31)) (by omega) (by omega)).mp h14
      refine XG.blk tX4_loadOn_ok 27 1 (pc' := 52) (pl' := [some (.ref 0), some (.ref 17), some (.int p), some (.int (itN (loadF R (a 32) lv p) 0 (S.1 31))), some (.int (nI (S.1 31)))]) (st' := [(.int (itN (loadF R (a 32) lv p) 0 (S.1 31)))]) (W1 := (rW se tv ta tb nv na)) (bs := []) rfl rfl rfl ?_
      refine XS.iret eX4_loadOn_52 rfl rfl ?_
      exact ⟨rfl, rfl⟩
    · exfalso
      have g14 : ¬ (S.1 31) ≤ (S.1 31) := (fun z => h14 ((nI_leI (a := (S.1 31)) (b := (S.1 31)) (by omega) (by omega)).mpr z))
      omega
  · intro i hi ihi
    have q2 : (tv 3) = (nI (S.1 31)) := hcr
    refine XG.blk tX4_loadOn_ok 4 4 (pc' := 14) (pl' := [some (.ref 0), some (.ref 17), some (.int p), some (.int (itN (loadF R (a 32) lv p) 0 i)), some (.int (nI i))]) (st' := [(.int (tv 3)), (.int (nI i))]) (W1 := (rW se tv ta tb nv na)) (bs := []) rfl rfl rfl ?_
    simp only [q2]
    refine XG.br eX4_loadOn_14 (P := (nI (S.1 31)) ≤ (nI i)) (r := []) rfl (tgt := 51) (by decide) (fun h14 => ?_) (fun h14 => ?_)
    · exfalso
      have g14 : (S.1 31) ≤ i := (nI_leI (a := (S.1 31)) (b := i) (by omega) (by omega)).mp h14
      omega
    · skip
      have g14 : ¬ (S.1 31) ≤ i := (fun z => h14 ((nI_leI (a := (S.1 31)) (b := i) (by omega) (by omega)).mpr z))
      have q3 : (nI i).toNatClampNeg = i := nI_clamp (by omega)
      have q4 : ((na 7) i) = (R (18 + i)) := (hWh i (by omega)).1
      refine XG.blk tX4_loadOn_ok 9 6 (pc' := 26) (pl' := [some (.ref 0), some (.ref 17), some (.int p), some (.int (itN (loadF R (a 32) lv p) 0 i)), some (.int (nI i))]) (st' := [(.int p), (.int ((na 7) (nI i).toNatClampNeg)), (.int (itN (loadF R (a 32) lv p) 0 i))]) (W1 := (rW se tv ta tb nv na)) (bs := [px_vb (nI i) 5]) rfl rfl (by (try simp only [q3, q4]); exact (px_all (px_vbN (by omega) (by decide)) rfl)) ?_
      simp only [q3, q4]
      refine XG.br eX4_loadOn_26 (P := ¬ (R (18 + i)) = p) (r := [(.int (itN (loadF R (a 32) lv p) 0 i))]) rfl (tgt := 42) (by decide) (fun h26 => ?_) (fun h26 => ?_)
      · skip
        have q5 : ((nI i) + (nI 1)) = (nI (i + 1)) := px_eadd rfl rfl
        refine XG.blk tX4_loadOn_ok 22 4 (pc' := 48) (pl' := [some (.ref 0), some (.ref 17), some (.int p), some (.int ((itN (loadF R (a 32) lv p) 0 i) + (nI 0))), some (.int ((nI i) + (nI 1)))]) (st' := []) (W1 := (rW se tv ta tb nv na)) (bs := []) rfl rfl rfl ?_
        simp only [q5]
        refine XG.goto eX4_loadOn_48 (tgt := 5) (by decide) ?_
        rw [show (itN (loadF R (a 32) lv p) 0 (i + 1)) = (itN (loadF R (a 32) lv p) 0 i) + nI 0 from (if_neg h26).trans (Int32.add_zero _).symm] at ihi; exact ihi
      · skip
        have h26 := Decidable.not_not.mp h26
        have q6 : (nI i).toNatClampNeg = i := nI_clamp (by omega)
        have q7 : ((ta 14) i) = (a 32 (5 * lv + i)) := (hX.cro (by omega)).1
        refine XG.blk tX4_loadOn_ok 16 5 (pc' := 39) (pl' := [some (.ref 0), some (.ref 17), some (.int p), some (.int (itN (loadF R (a 32) lv p) 0 i)), some (.int (nI i))]) (st' := [(.int ((ta 14) (nI i).toNatClampNeg)), (.int (itN (loadF R (a 32) lv p) 0 i))]) (W1 := (rW se tv ta tb nv na)) (bs := [px_vb (nI i) 5]) rfl rfl (by (try simp only [q6, q7]); exact (px_all (px_vbN (by omega) (by decide)) rfl)) ?_
        simp only [q6, q7]
        refine XG.goto eX4_loadOn_39 (tgt := 43) (by decide) ?_
        have q8 : ((nI i) + (nI 1)) = (nI (i + 1)) := px_eadd rfl rfl
        refine XG.blk tX4_loadOn_ok 23 3 (pc' := 48) (pl' := [some (.ref 0), some (.ref 17), some (.int p), some (.int ((itN (loadF R (a 32) lv p) 0 i) + (a 32 (5 * lv + i)))), some (.int ((nI i) + (nI 1)))]) (st' := []) (W1 := (rW se tv ta tb nv na)) (bs := []) rfl rfl rfl ?_
        simp only [q8]
        refine XG.goto eX4_loadOn_48 (tgt := 5) (by decide) ?_
        rw [show (itN (loadF R (a 32) lv p) 0 (i + 1)) = (itN (loadF R (a 32) lv p) 0 i) + a 32 (5 * lv + i) from if_pos h26] at ihi; exact ihi
theorem in04 {x : Int32} : (nI 0 ≤ x ∧ x ≤ nI 4) ↔ (¬ x < 0 ∧ ¬ nI 5 ≤ x) := by
  rw [Int32.le_iff_toInt_le, Int32.le_iff_toInt_le, Int32.lt_iff_toInt_lt, Int32.le_iff_toInt_le, show (nI 0).toInt = 0 from rfl, show (nI 4).toInt = 4 from rfl, show (nI 5).toInt = 5 from rfl, show (0 : Int32).toInt = 0 from rfl]
  omega
set_option maxHeartbeats 400000 in
theorem cc_noiseOf (d : Nat) (se : Nat → Int32) (tv : Nat → Int32) (ta : Nat → Nat → Int32) (tb : Nat → Nat → Int64) (nv : Nat → Int32) (na : Nat → Nat → Int32) (S : SD) (lv : Nat) (a : Nat → Nat → Int32) (hX : CX S lv a tv ta) (R : Nat → Int32) (hN : CNt S R nv na)  : Con mX4_noiseOf d [.ref 0, .ref 17] (rW se tv ta tb nv na) (fun r W' => W' = rW se tv ta tb nv na ∧ r = some (.int (itN (noiseF R (a 33) lv) 0 (S.1 31)))) := by
  obtain ⟨hcr, hcr2⟩ := hX.cr
  obtain ⟨hsl, hsl2⟩ := hX.sl
  obtain ⟨hsp, hsp1, hsp2⟩ := hX.sp
  have hWh := hN.2.2.2.2.2.2
  refine Con.of (by decide) (Nat.le_of_ble_eq_true rfl) ?_
  refine XG.blk tX4_noiseOf_ok 0 4 (pc' := 4) (pl' := [some (.ref 0), some (.ref 17), some (.int (nI 0)), some (.int (nI 0)), none]) (st' := []) (W1 := (rW se tv ta tb nv na)) (bs := []) rfl rfl rfl ?_
  refine px_for (S.1 31) (fun i => XG mX4_noiseOf _ 0 0 4 [some (.ref 0), some (.ref 17), some (.int (itN (noiseF R (a 33) lv) 0 i)), some (.int (nI i)), none] [] (rW se tv ta tb nv na)) ?_ ?_ 0 (Nat.zero_le _)
  · skip
    have q1 : (tv 3) = (nI (S.1 31)) := hcr
    refine XG.blk tX4_noiseOf_ok 4 4 (pc' := 12) (pl' := [some (.ref 0), some (.ref 17), some (.int (itN (noiseF R (a 33) lv) 0 (S.1 31))), some (.int (nI (S.1 31))), none]) (st' := [(.int (tv 3)), (.int (nI (S.1 31)))]) (W1 := (rW se tv ta tb nv na)) (bs := []) rfl rfl rfl ?_
    simp only [q1]
    refine XG.br eX4_noiseOf_12 (P := (nI (S.1 31)) ≤ (nI (S.1 31))) (r := []) rfl (tgt := 56) (by decide) (fun h12 => ?_) (fun h12 => ?_)
    · skip
      have g12 : (S.1 31) ≤ (S.1 31) := (nI_leI (a := (S.1 31)) (b := (S.1 31)) (by omega) (by omega)).mp h12
      refine XG.blk tX4_noiseOf_ok 31 1 (pc' := 57) (pl' := [some (.ref 0), some (.ref 17), some (.int (itN (noiseF R (a 33) lv) 0 (S.1 31))), some (.int (nI (S.1 31))), none]) (st' := [(.int (itN (noiseF R (a 33) lv) 0 (S.1 31)))]) (W1 := (rW se tv ta tb nv na)) (bs := []) rfl rfl rfl ?_
      refine XS.iret eX4_noiseOf_57 rfl rfl ?_
      exact ⟨rfl, rfl⟩
    · exfalso
      have g12 : ¬ (S.1 31) ≤ (S.1 31) := (fun z => h12 ((nI_leI (a := (S.1 31)) (b := (S.1 31)) (by omega) (by omega)).mpr z))
      omega
  · intro i hi ihi
    have q2 : (tv 3) = (nI (S.1 31)) := hcr
    refine XG.blk tX4_noiseOf_ok 4 4 (pc' := 12) (pl' := [some (.ref 0), some (.ref 17), some (.int (itN (noiseF R (a 33) lv) 0 i)), some (.int (nI i)), none]) (st' := [(.int (tv 3)), (.int (nI i))]) (W1 := (rW se tv ta tb nv na)) (bs := []) rfl rfl rfl ?_
    simp only [q2]
    refine XG.br eX4_noiseOf_12 (P := (nI (S.1 31)) ≤ (nI i)) (r := []) rfl (tgt := 56) (by decide) (fun h12 => ?_) (fun h12 => ?_)
    · exfalso
      have g12 : (S.1 31) ≤ i := (nI_leI (a := (S.1 31)) (b := i) (by omega) (by omega)).mp h12
      omega
    · skip
      have g12 : ¬ (S.1 31) ≤ i := (fun z => h12 ((nI_leI (a := (S.1 31)) (b := i) (by omega) (by omega)).mpr z))
      have q3 : (nI i).toNatClampNeg = i := nI_clamp (by omega)
      have q4 : ((na 7) i) = (R (18 + i)) := (hWh i (by omega)).1
      refine XG.blk tX4_noiseOf_ok 9 7 (pc' := 26) (pl' := [some (.ref 0), some (.ref 17), some (.int (itN (noiseF R (a 33) lv) 0 i)), some (.int (nI i)), some (.int ((na 7) (nI i).toNatClampNeg))]) (st' := [(.int ((na 7) (nI i).toNatClampNeg)), (.int (itN (noiseF R (a 33) lv) 0 i))]) (W1 := (rW se tv ta tb nv na)) (bs := [px_vb (nI i) 5]) rfl rfl (by (try simp only [q3, q4]); exact (px_all (px_vbN (by omega) (by decide)) rfl)) ?_
      simp only [q3, q4]
      refine XG.br eX4_noiseOf_26 (P := (R (18 + i)) < 0) (r := [(.int (itN (noiseF R (a 33) lv) 0 i))]) rfl (tgt := 47) (by decide) (fun h26 => ?_) (fun h26 => ?_)
      · skip
        have q5 : ((nI i) + (nI 1)) = (nI (i + 1)) := px_eadd rfl rfl
        refine XG.blk tX4_noiseOf_ok 26 4 (pc' := 53) (pl' := [some (.ref 0), some (.ref 17), some (.int ((itN (noiseF R (a 33) lv) 0 i) + (nI 0))), some (.int ((nI i) + (nI 1))), some (.int (R (18 + i)))]) (st' := []) (W1 := (rW se tv ta tb nv na)) (bs := []) rfl rfl rfl ?_
        simp only [q5]
        refine XG.goto eX4_noiseOf_53 (tgt := 4) (by decide) ?_
        rw [show (itN (noiseF R (a 33) lv) 0 (i + 1)) = (itN (noiseF R (a 33) lv) 0 i) + nI 0 from (if_neg (fun z => (in04.mp z).1 h26)).trans (Int32.add_zero _).symm] at ihi
        refine XG.weak (pl' := [some (.ref 0), some (.ref 17), some (.int ((itN (noiseF R (a 33) lv) 0 i) + nI 0)), some (.int (nI (i + 1))), none]) ⟨rfl, rfl, rfl, rfl, trivial⟩ ?_
        exact ihi
      · skip
        refine XG.blk tX4_noiseOf_ok 17 2 (pc' := 32) (pl' := [some (.ref 0), some (.ref 17), some (.int (itN (noiseF R (a 33) lv) 0 i)), some (.int (nI i)), some (.int (R (18 + i)))]) (st' := [(.int (nI 5)), (.int (R (18 + i))), (.int (itN (noiseF R (a 33) lv) 0 i))]) (W1 := (rW se tv ta tb nv na)) (bs := []) rfl rfl rfl ?_
        refine XG.br eX4_noiseOf_32 (P := (nI 5) ≤ (R (18 + i))) (r := [(.int (itN (noiseF R (a 33) lv) 0 i))]) rfl (tgt := 47) (by decide) (fun h32 => ?_) (fun h32 => ?_)
        · skip
          have q6 : ((nI i) + (nI 1)) = (nI (i + 1)) := px_eadd rfl rfl
          refine XG.blk tX4_noiseOf_ok 26 4 (pc' := 53) (pl' := [some (.ref 0), some (.ref 17), some (.int ((itN (noiseF R (a 33) lv) 0 i) + (nI 0))), some (.int ((nI i) + (nI 1))), some (.int (R (18 + i)))]) (st' := []) (W1 := (rW se tv ta tb nv na)) (bs := []) rfl rfl rfl ?_
          simp only [q6]
          refine XG.goto eX4_noiseOf_53 (tgt := 4) (by decide) ?_
          rw [show (itN (noiseF R (a 33) lv) 0 (i + 1)) = (itN (noiseF R (a 33) lv) 0 i) + nI 0 from (if_neg (fun z => (in04.mp z).2 h32)).trans (Int32.add_zero _).symm] at ihi
          refine XG.weak (pl' := [some (.ref 0), some (.ref 17), some (.int ((itN (noiseF R (a 33) lv) 0 i) + nI 0)), some (.int (nI (i + 1))), none]) ⟨rfl, rfl, rfl, rfl, trivial⟩ ?_
          exact ihi
        · skip
          have q7 : (nI i).toNatClampNeg = i := nI_clamp (by omega)
          have q8 : ((ta 15) i) = (a 33 (5 * lv + i)) := (hX.cro (by omega)).2.1
          refine XG.blk tX4_noiseOf_ok 20 5 (pc' := 44) (pl' := [some (.ref 0), some (.ref 17), some (.int (itN (noiseF R (a 33) lv) 0 i)), some (.int (nI i)), some (.int (R (18 + i)))]) (st' := [(.int ((ta 15) (nI i).toNatClampNeg)), (.int (itN (noiseF R (a 33) lv) 0 i))]) (W1 := (rW se tv ta tb nv na)) (bs := [px_vb (nI i) 5]) rfl rfl (by (try simp only [q7, q8]); exact (px_all (px_vbN (by omega) (by decide)) rfl)) ?_
          simp only [q7, q8]
          refine XG.goto eX4_noiseOf_44 (tgt := 48) (by decide) ?_
          have q9 : ((nI i) + (nI 1)) = (nI (i + 1)) := px_eadd rfl rfl
          refine XG.blk tX4_noiseOf_ok 27 3 (pc' := 53) (pl' := [some (.ref 0), some (.ref 17), some (.int ((itN (noiseF R (a 33) lv) 0 i) + (a 33 (5 * lv + i)))), some (.int ((nI i) + (nI 1))), some (.int (R (18 + i)))]) (st' := []) (W1 := (rW se tv ta tb nv na)) (bs := []) rfl rfl rfl ?_
          simp only [q9]
          refine XG.goto eX4_noiseOf_53 (tgt := 4) (by decide) ?_
          rw [show (itN (noiseF R (a 33) lv) 0 (i + 1)) = (itN (noiseF R (a 33) lv) 0 i) + a 33 (5 * lv + i) from if_pos (in04.mpr ⟨h26, h32⟩)] at ihi
          refine XG.weak (pl' := [some (.ref 0), some (.ref 17), some (.int ((itN (noiseF R (a 33) lv) 0 i) + a 33 (5 * lv + i))), some (.int (nI (i + 1))), none]) ⟨rfl, rfl, rfl, rfl, trivial⟩ ?_
          exact ihi
set_option maxHeartbeats 400000 in
theorem cc_crossersAt (d : Nat) (se : Nat → Int32) (tv : Nat → Int32) (ta : Nat → Nat → Int32) (tb : Nat → Nat → Int64) (nv : Nat → Int32) (na : Nat → Nat → Int32) (S : SD) (lv : Nat) (a : Nat → Nat → Int32) (hX : CX S lv a tv ta) (R : Nat → Int32) (hN : CNt S R nv na) (p : Int32) : Con mX4_crossersAt d [.ref 0, .ref 17, .int p] (rW se tv ta tb nv na) (fun r W' => W' = rW se tv ta tb nv na ∧ r = some (.int (itN (bitsF R 18 p) 0 (S.1 31)))) := by
  obtain ⟨hcr, hcr2⟩ := hX.cr
  obtain ⟨hsl, hsl2⟩ := hX.sl
  obtain ⟨hsp, hsp1, hsp2⟩ := hX.sp
  have hWh := hN.2.2.2.2.2.2
  refine Con.of (by decide) (Nat.le_of_ble_eq_true rfl) ?_
  refine XG.blk tX4_crossersAt_ok 0 4 (pc' := 5) (pl' := [some (.ref 0), some (.ref 17), some (.int p), some (.int (nI 0)), some (.int (nI 0))]) (st' := []) (W1 := (rW se tv ta tb nv na)) (bs := []) rfl rfl rfl ?_
  refine px_for (S.1 31) (fun i => XG mX4_crossersAt _ 0 0 5 [some (.ref 0), some (.ref 17), some (.int p), some (.int (itN (bitsF R 18 p) 0 i)), some (.int (nI i))] [] (rW se tv ta tb nv na)) ?_ ?_ 0 (Nat.zero_le _)
  · skip
    have q1 : (tv 3) = (nI (S.1 31)) := hcr
    refine XG.blk tX4_crossersAt_ok 4 4 (pc' := 14) (pl' := [some (.ref 0), some (.ref 17), some (.int p), some (.int (itN (bitsF R 18 p) 0 (S.1 31))), some (.int (nI (S.1 31)))]) (st' := [(.int (tv 3)), (.int (nI (S.1 31)))]) (W1 := (rW se tv ta tb nv na)) (bs := []) rfl rfl rfl ?_
    simp only [q1]
    refine XG.br eX4_crossersAt_14 (P := (nI (S.1 31)) ≤ (nI (S.1 31))) (r := []) rfl (tgt := 45) (by decide) (fun h14 => ?_) (fun h14 => ?_)
    · skip
      have g14 : (S.1 31) ≤ (S.1 31) := (nI_leI (a := (S.1 31)) (b := (S.1 31)) (by omega) (by omega)).mp h14
      refine XG.blk tX4_crossersAt_ok 25 1 (pc' := 46) (pl' := [some (.ref 0), some (.ref 17), some (.int p), some (.int (itN (bitsF R 18 p) 0 (S.1 31))), some (.int (nI (S.1 31)))]) (st' := [(.int (itN (bitsF R 18 p) 0 (S.1 31)))]) (W1 := (rW se tv ta tb nv na)) (bs := []) rfl rfl rfl ?_
      refine XS.iret eX4_crossersAt_46 rfl rfl ?_
      exact ⟨rfl, rfl⟩
    · exfalso
      have g14 : ¬ (S.1 31) ≤ (S.1 31) := (fun z => h14 ((nI_leI (a := (S.1 31)) (b := (S.1 31)) (by omega) (by omega)).mpr z))
      omega
  · intro i hi ihi
    have q2 : (tv 3) = (nI (S.1 31)) := hcr
    refine XG.blk tX4_crossersAt_ok 4 4 (pc' := 14) (pl' := [some (.ref 0), some (.ref 17), some (.int p), some (.int (itN (bitsF R 18 p) 0 i)), some (.int (nI i))]) (st' := [(.int (tv 3)), (.int (nI i))]) (W1 := (rW se tv ta tb nv na)) (bs := []) rfl rfl rfl ?_
    simp only [q2]
    refine XG.br eX4_crossersAt_14 (P := (nI (S.1 31)) ≤ (nI i)) (r := []) rfl (tgt := 45) (by decide) (fun h14 => ?_) (fun h14 => ?_)
    · exfalso
      have g14 : (S.1 31) ≤ i := (nI_leI (a := (S.1 31)) (b := i) (by omega) (by omega)).mp h14
      omega
    · skip
      have g14 : ¬ (S.1 31) ≤ i := (fun z => h14 ((nI_leI (a := (S.1 31)) (b := i) (by omega) (by omega)).mpr z))
      have q3 : (nI i).toNatClampNeg = i := nI_clamp (by omega)
      have q4 : ((na 7) i) = (R (18 + i)) := (hWh i (by omega)).1
      refine XG.blk tX4_crossersAt_ok 9 6 (pc' := 26) (pl' := [some (.ref 0), some (.ref 17), some (.int p), some (.int (itN (bitsF R 18 p) 0 i)), some (.int (nI i))]) (st' := [(.int p), (.int ((na 7) (nI i).toNatClampNeg)), (.int (itN (bitsF R 18 p) 0 i))]) (W1 := (rW se tv ta tb nv na)) (bs := [px_vb (nI i) 5]) rfl rfl (by (try simp only [q3, q4]); exact (px_all (px_vbN (by omega) (by decide)) rfl)) ?_
      simp only [q3, q4]
      refine XG.br eX4_crossersAt_26 (P := ¬ (R (18 + i)) = p) (r := [(.int (itN (bitsF R 18 p) 0 i))]) rfl (tgt := 36) (by decide) (fun h26 => ?_) (fun h26 => ?_)
      · skip
        have q5 : ((nI i) + (nI 1)) = (nI (i + 1)) := px_eadd rfl rfl
        refine XG.blk tX4_crossersAt_ok 20 4 (pc' := 42) (pl' := [some (.ref 0), some (.ref 17), some (.int p), some (.int ((itN (bitsF R 18 p) 0 i) ||| (nI 0))), some (.int ((nI i) + (nI 1)))]) (st' := []) (W1 := (rW se tv ta tb nv na)) (bs := []) rfl rfl rfl ?_
        simp only [q5]
        refine XG.goto eX4_crossersAt_42 (tgt := 5) (by decide) ?_
        rw [show (itN (bitsF R 18 p) 0 (i + 1)) = (itN (bitsF R 18 p) 0 i) ||| nI 0 from (if_neg h26).trans (Int32.or_zero).symm] at ihi; exact ihi
      · skip
        have h26 := Decidable.not_not.mp h26
        refine XG.blk tX4_crossersAt_ok 16 3 (pc' := 33) (pl' := [some (.ref 0), some (.ref 17), some (.int p), some (.int (itN (bitsF R 18 p) 0 i)), some (.int (nI i))]) (st' := [(.int ((nI 1) <<< ((nI i) &&& 31))), (.int (itN (bitsF R 18 p) 0 i))]) (W1 := (rW se tv ta tb nv na)) (bs := []) rfl rfl rfl ?_
        refine XG.goto eX4_crossersAt_33 (tgt := 37) (by decide) ?_
        have q6 : ((nI i) + (nI 1)) = (nI (i + 1)) := px_eadd rfl rfl
        refine XG.blk tX4_crossersAt_ok 21 3 (pc' := 42) (pl' := [some (.ref 0), some (.ref 17), some (.int p), some (.int ((itN (bitsF R 18 p) 0 i) ||| ((nI 1) <<< ((nI i) &&& 31)))), some (.int ((nI i) + (nI 1)))]) (st' := []) (W1 := (rW se tv ta tb nv na)) (bs := []) rfl rfl rfl ?_
        simp only [q6]
        refine XG.goto eX4_crossersAt_42 (tgt := 5) (by decide) ?_
        rw [show (itN (bitsF R 18 p) 0 (i + 1)) = (itN (bitsF R 18 p) 0 i) ||| (nI 1 <<< (nI i &&& 31)) from if_pos h26] at ihi; exact ihi
set_option maxHeartbeats 400000 in
theorem cc_lyingOn (d : Nat) (se : Nat → Int32) (tv : Nat → Int32) (ta : Nat → Nat → Int32) (tb : Nat → Nat → Int64) (nv : Nat → Int32) (na : Nat → Nat → Int32) (S : SD) (lv : Nat) (a : Nat → Nat → Int32) (hX : CX S lv a tv ta) (R : Nat → Int32) (hN : CNt S R nv na) (p : Int32) : Con mX4_lyingOn d [.ref 0, .ref 17, .int p] (rW se tv ta tb nv na) (fun r W' => W' = rW se tv ta tb nv na ∧ r = some (.int (itN (bitsF R 12 p) 0 (S.1 24)))) := by
  obtain ⟨hcr, hcr2⟩ := hX.cr
  obtain ⟨hsl, hsl2⟩ := hX.sl
  obtain ⟨hsp, hsp1, hsp2⟩ := hX.sp
  have hWh := hN.2.2.2.2.2.2
  refine Con.of (by decide) (Nat.le_of_ble_eq_true rfl) ?_
  refine XG.blk tX4_lyingOn_ok 0 4 (pc' := 5) (pl' := [some (.ref 0), some (.ref 17), some (.int p), some (.int (nI 0)), some (.int (nI 0))]) (st' := []) (W1 := (rW se tv ta tb nv na)) (bs := []) rfl rfl rfl ?_
  refine px_for (S.1 24) (fun i => XG mX4_lyingOn _ 0 0 5 [some (.ref 0), some (.ref 17), some (.int p), some (.int (itN (bitsF R 12 p) 0 i)), some (.int (nI i))] [] (rW se tv ta tb nv na)) ?_ ?_ 0 (Nat.zero_le _)
  · skip
    have q1 : (tv 1) = (nI (S.1 24)) := hsl
    refine XG.blk tX4_lyingOn_ok 4 4 (pc' := 14) (pl' := [some (.ref 0), some (.ref 17), some (.int p), some (.int (itN (bitsF R 12 p) 0 (S.1 24))), some (.int (nI (S.1 24)))]) (st' := [(.int (tv 1)), (.int (nI (S.1 24)))]) (W1 := (rW se tv ta tb nv na)) (bs := []) rfl rfl rfl ?_
    simp only [q1]
    refine XG.br eX4_lyingOn_14 (P := (nI (S.1 24)) ≤ (nI (S.1 24))) (r := []) rfl (tgt := 45) (by decide) (fun h14 => ?_) (fun h14 => ?_)
    · skip
      have g14 : (S.1 24) ≤ (S.1 24) := (nI_leI (a := (S.1 24)) (b := (S.1 24)) (by omega) (by omega)).mp h14
      refine XG.blk tX4_lyingOn_ok 25 1 (pc' := 46) (pl' := [some (.ref 0), some (.ref 17), some (.int p), some (.int (itN (bitsF R 12 p) 0 (S.1 24))), some (.int (nI (S.1 24)))]) (st' := [(.int (itN (bitsF R 12 p) 0 (S.1 24)))]) (W1 := (rW se tv ta tb nv na)) (bs := []) rfl rfl rfl ?_
      refine XS.iret eX4_lyingOn_46 rfl rfl ?_
      exact ⟨rfl, rfl⟩
    · exfalso
      have g14 : ¬ (S.1 24) ≤ (S.1 24) := (fun z => h14 ((nI_leI (a := (S.1 24)) (b := (S.1 24)) (by omega) (by omega)).mpr z))
      omega
  · intro i hi ihi
    have q2 : (tv 1) = (nI (S.1 24)) := hsl
    refine XG.blk tX4_lyingOn_ok 4 4 (pc' := 14) (pl' := [some (.ref 0), some (.ref 17), some (.int p), some (.int (itN (bitsF R 12 p) 0 i)), some (.int (nI i))]) (st' := [(.int (tv 1)), (.int (nI i))]) (W1 := (rW se tv ta tb nv na)) (bs := []) rfl rfl rfl ?_
    simp only [q2]
    refine XG.br eX4_lyingOn_14 (P := (nI (S.1 24)) ≤ (nI i)) (r := []) rfl (tgt := 45) (by decide) (fun h14 => ?_) (fun h14 => ?_)
    · exfalso
      have g14 : (S.1 24) ≤ i := (nI_leI (a := (S.1 24)) (b := i) (by omega) (by omega)).mp h14
      omega
    · skip
      have g14 : ¬ (S.1 24) ≤ i := (fun z => h14 ((nI_leI (a := (S.1 24)) (b := i) (by omega) (by omega)).mpr z))
      have q3 : (nI i).toNatClampNeg = i := nI_clamp (by omega)
      have q4 : ((na 6) i) = (R (12 + i)) := (hN.2.2.2.2.2.1 i (by omega)).2
      refine XG.blk tX4_lyingOn_ok 9 6 (pc' := 26) (pl' := [some (.ref 0), some (.ref 17), some (.int p), some (.int (itN (bitsF R 12 p) 0 i)), some (.int (nI i))]) (st' := [(.int p), (.int ((na 6) (nI i).toNatClampNeg)), (.int (itN (bitsF R 12 p) 0 i))]) (W1 := (rW se tv ta tb nv na)) (bs := [px_vb (nI i) 6]) rfl rfl (by (try simp only [q3, q4]); exact (px_all (px_vbN (by omega) (by decide)) rfl)) ?_
      simp only [q3, q4]
      refine XG.br eX4_lyingOn_26 (P := ¬ (R (12 + i)) = p) (r := [(.int (itN (bitsF R 12 p) 0 i))]) rfl (tgt := 36) (by decide) (fun h26 => ?_) (fun h26 => ?_)
      · skip
        have q5 : ((nI i) + (nI 1)) = (nI (i + 1)) := px_eadd rfl rfl
        refine XG.blk tX4_lyingOn_ok 20 4 (pc' := 42) (pl' := [some (.ref 0), some (.ref 17), some (.int p), some (.int ((itN (bitsF R 12 p) 0 i) ||| (nI 0))), some (.int ((nI i) + (nI 1)))]) (st' := []) (W1 := (rW se tv ta tb nv na)) (bs := []) rfl rfl rfl ?_
        simp only [q5]
        refine XG.goto eX4_lyingOn_42 (tgt := 5) (by decide) ?_
        rw [show (itN (bitsF R 12 p) 0 (i + 1)) = (itN (bitsF R 12 p) 0 i) ||| nI 0 from (if_neg h26).trans (Int32.or_zero).symm] at ihi; exact ihi
      · skip
        have h26 := Decidable.not_not.mp h26
        refine XG.blk tX4_lyingOn_ok 16 3 (pc' := 33) (pl' := [some (.ref 0), some (.ref 17), some (.int p), some (.int (itN (bitsF R 12 p) 0 i)), some (.int (nI i))]) (st' := [(.int ((nI 1) <<< ((nI i) &&& 31))), (.int (itN (bitsF R 12 p) 0 i))]) (W1 := (rW se tv ta tb nv na)) (bs := []) rfl rfl rfl ?_
        refine XG.goto eX4_lyingOn_33 (tgt := 37) (by decide) ?_
        have q6 : ((nI i) + (nI 1)) = (nI (i + 1)) := px_eadd rfl rfl
        refine XG.blk tX4_lyingOn_ok 21 3 (pc' := 42) (pl' := [some (.ref 0), some (.ref 17), some (.int p), some (.int ((itN (bitsF R 12 p) 0 i) ||| ((nI 1) <<< ((nI i) &&& 31)))), some (.int ((nI i) + (nI 1)))]) (st' := []) (W1 := (rW se tv ta tb nv na)) (bs := []) rfl rfl rfl ?_
        simp only [q6]
        refine XG.goto eX4_lyingOn_42 (tgt := 5) (by decide) ?_
        rw [show (itN (bitsF R 12 p) 0 (i + 1)) = (itN (bitsF R 12 p) 0 i) ||| (nI 1 <<< (nI i &&& 31)) from if_pos h26] at ihi; exact ihi
def onW (R : Nat → Int32) (c : Nat) : Bool := decide (R (18 + c) = -3 ∨ (¬ R (18 + c) < 0 ∧ ¬ nI 5 ≤ R (18 + c)))
set_option maxHeartbeats 400000 in
theorem cc_someAre (d : Nat) (se : Nat → Int32) (tv : Nat → Int32) (ta : Nat → Nat → Int32) (tb : Nat → Nat → Int64) (nv : Nat → Int32) (na : Nat → Nat → Int32) (S : SD) (lv : Nat) (a : Nat → Nat → Int32) (hX : CX S lv a tv ta) (R : Nat → Int32) (hN : CNt S R nv na)  : Con mX4_someAreOnTheWay d [.ref 0, .ref 17] (rW se tv ta tb nv na) (fun r W' => W' = rW se tv ta tb nv na ∧ r = some (.int (if (findN (onW R) (S.1 31) 0).isSome = true then 1 else 0))) := by
  obtain ⟨hcr, hcr2⟩ := hX.cr
  obtain ⟨hsl, hsl2⟩ := hX.sl
  obtain ⟨hsp, hsp1, hsp2⟩ := hX.sp
  have hWh := hN.2.2.2.2.2.2
  refine Con.of (by decide) (Nat.le_of_ble_eq_true rfl) ?_
  refine XG.blk tX4_someAreOnTheWay_ok 0 2 (pc' := 2) (pl' := [some (.ref 0), some (.ref 17), some (.int (nI 0))]) (st' := []) (W1 := (rW se tv ta tb nv na)) (bs := []) rfl rfl rfl ?_
  refine px_for (S.1 31) (fun i => ∀ (hF : findN (onW R) (S.1 31 - i) i = findN (onW R) (S.1 31) 0), XG mX4_someAreOnTheWay _ 0 0 2 [some (.ref 0), some (.ref 17), some (.int (nI i))] [] (rW se tv ta tb nv na)) ?_ ?_ 0 (Nat.zero_le _) rfl
  · intro hF
    have q1 : (tv 3) = (nI (S.1 31)) := hcr
    refine XG.blk tX4_someAreOnTheWay_ok 2 4 (pc' := 10) (pl' := [some (.ref 0), some (.ref 17), some (.int (nI (S.1 31)))]) (st' := [(.int (tv 3)), (.int (nI (S.1 31)))]) (W1 := (rW se tv ta tb nv na)) (bs := []) rfl rfl rfl ?_
    simp only [q1]
    refine XG.br eX4_someAreOnTheWay_10 (P := (nI (S.1 31)) ≤ (nI (S.1 31))) (r := []) rfl (tgt := 51) (by decide) (fun h10 => ?_) (fun h10 => ?_)
    · skip
      have g10 : (S.1 31) ≤ (S.1 31) := (nI_leI (a := (S.1 31)) (b := (S.1 31)) (by omega) (by omega)).mp h10
      refine XG.blk tX4_someAreOnTheWay_ok 28 1 (pc' := 52) (pl' := [some (.ref 0), some (.ref 17), some (.int (nI (S.1 31)))]) (st' := [(.int (nI 0))]) (W1 := (rW se tv ta tb nv na)) (bs := []) rfl rfl rfl ?_
      refine XS.iret eX4_someAreOnTheWay_52 rfl (by decide) ?_
      rw [← hF, Nat.sub_self]; exact ⟨rfl, rfl⟩
    · exfalso
      have g10 : ¬ (S.1 31) ≤ (S.1 31) := (fun z => h10 ((nI_leI (a := (S.1 31)) (b := (S.1 31)) (by omega) (by omega)).mpr z))
      omega
  · intro i hi ihi hF
    have q2 : (tv 3) = (nI (S.1 31)) := hcr
    refine XG.blk tX4_someAreOnTheWay_ok 2 4 (pc' := 10) (pl' := [some (.ref 0), some (.ref 17), some (.int (nI i))]) (st' := [(.int (tv 3)), (.int (nI i))]) (W1 := (rW se tv ta tb nv na)) (bs := []) rfl rfl rfl ?_
    simp only [q2]
    refine XG.br eX4_someAreOnTheWay_10 (P := (nI (S.1 31)) ≤ (nI i)) (r := []) rfl (tgt := 51) (by decide) (fun h10 => ?_) (fun h10 => ?_)
    · exfalso
      have g10 : (S.1 31) ≤ i := (nI_leI (a := (S.1 31)) (b := i) (by omega) (by omega)).mp h10
      omega
    · skip
      have g10 : ¬ (S.1 31) ≤ i := (fun z => h10 ((nI_leI (a := (S.1 31)) (b := i) (by omega) (by omega)).mpr z))
      have q3 : (nI i).toNatClampNeg = i := nI_clamp (by omega)
      have q4 : ((na 7) i) = (R (18 + i)) := (hWh i (by omega)).1
      refine XG.blk tX4_someAreOnTheWay_ok 7 5 (pc' := 21) (pl' := [some (.ref 0), some (.ref 17), some (.int (nI i))]) (st' := [(.int (-3)), (.int ((na 7) (nI i).toNatClampNeg))]) (W1 := (rW se tv ta tb nv na)) (bs := [px_vb (nI i) 5]) rfl rfl (by (try simp only [q3, q4]); exact (px_all (px_vbN (by omega) (by decide)) rfl)) ?_
      simp only [q3, q4]
      refine XG.br eX4_someAreOnTheWay_21 (P := (R (18 + i)) = (-3)) (r := []) rfl (tgt := 43) (by decide) (fun h21 => ?_) (fun h21 => ?_)
      · skip
        refine XG.blk tX4_someAreOnTheWay_ok 24 1 (pc' := 44) (pl' := [some (.ref 0), some (.ref 17), some (.int (nI i))]) (st' := [(.int (nI 1))]) (W1 := (rW se tv ta tb nv na)) (bs := []) rfl rfl rfl ?_
        refine XS.iret eX4_someAreOnTheWay_44 rfl (by decide) ?_
        rw [← hF, show S.1 31 - i = S.1 31 - (i + 1) + 1 by omega, show findN (onW R) (S.1 31 - (i + 1) + 1) i = some i from if_pos (by unfold onW; exact decide_eq_true (Or.inl h21))]; exact ⟨rfl, rfl⟩
      · skip
        have q5 : (nI i).toNatClampNeg = i := nI_clamp (by omega)
        have q6 : ((na 7) i) = (R (18 + i)) := (hWh i (by omega)).1
        refine XG.blk tX4_someAreOnTheWay_ok 13 4 (pc' := 30) (pl' := [some (.ref 0), some (.ref 17), some (.int (nI i))]) (st' := [(.int ((na 7) (nI i).toNatClampNeg))]) (W1 := (rW se tv ta tb nv na)) (bs := [px_vb (nI i) 5]) rfl rfl (by (try simp only [q5, q6]); exact (px_all (px_vbN (by omega) (by decide)) rfl)) ?_
        simp only [q5, q6]
        refine XG.br eX4_someAreOnTheWay_30 (P := (R (18 + i)) < 0) (r := []) rfl (tgt := 45) (by decide) (fun h30 => ?_) (fun h30 => ?_)
        · skip
          have q7 : ((nI i) + (nI 1)) = (nI (i + 1)) := px_eadd rfl rfl
          refine XG.blk tX4_someAreOnTheWay_ok 26 1 (pc' := 48) (pl' := [some (.ref 0), some (.ref 17), some (.int ((nI i) + (nI 1)))]) (st' := []) (W1 := (rW se tv ta tb nv na)) (bs := []) rfl rfl rfl ?_
          simp only [q7]
          refine XG.goto eX4_someAreOnTheWay_48 (tgt := 2) (by decide) ?_
          refine ihi ?_
          rw [← hF, show S.1 31 - i = S.1 31 - (i + 1) + 1 by omega]
          show _ = (if onW R i = true then _ else _)
          rw [if_neg (by unfold onW; simp only [decide_eq_true_eq]; rintro (z | z); exact h21 z; exact z.1 h30)]
        · skip
          have q8 : (nI i).toNatClampNeg = i := nI_clamp (by omega)
          have q9 : ((na 7) i) = (R (18 + i)) := (hWh i (by omega)).1
          refine XG.blk tX4_someAreOnTheWay_ok 18 5 (pc' := 40) (pl' := [some (.ref 0), some (.ref 17), some (.int (nI i))]) (st' := [(.int (nI 5)), (.int ((na 7) (nI i).toNatClampNeg))]) (W1 := (rW se tv ta tb nv na)) (bs := [px_vb (nI i) 5]) rfl rfl (by (try simp only [q8, q9]); exact (px_all (px_vbN (by omega) (by decide)) rfl)) ?_
          simp only [q8, q9]
          refine XG.br eX4_someAreOnTheWay_40 (P := (nI 5) ≤ (R (18 + i))) (r := []) rfl (tgt := 45) (by decide) (fun h40 => ?_) (fun h40 => ?_)
          · skip
            have q10 : ((nI i) + (nI 1)) = (nI (i + 1)) := px_eadd rfl rfl
            refine XG.blk tX4_someAreOnTheWay_ok 26 1 (pc' := 48) (pl' := [some (.ref 0), some (.ref 17), some (.int ((nI i) + (nI 1)))]) (st' := []) (W1 := (rW se tv ta tb nv na)) (bs := []) rfl rfl rfl ?_
            simp only [q10]
            refine XG.goto eX4_someAreOnTheWay_48 (tgt := 2) (by decide) ?_
            refine ihi ?_
            rw [← hF, show S.1 31 - i = S.1 31 - (i + 1) + 1 by omega]
            show _ = (if onW R i = true then _ else _)
            rw [if_neg (by unfold onW; simp only [decide_eq_true_eq]; rintro (z | z); exact h21 z; exact z.2 h40)]
          · skip
            refine XG.blk tX4_someAreOnTheWay_ok 24 1 (pc' := 44) (pl' := [some (.ref 0), some (.ref 17), some (.int (nI i))]) (st' := [(.int (nI 1))]) (W1 := (rW se tv ta tb nv na)) (bs := []) rfl rfl rfl ?_
            refine XS.iret eX4_someAreOnTheWay_44 rfl (by decide) ?_
            rw [← hF, show S.1 31 - i = S.1 31 - (i + 1) + 1 by omega, show findN (onW R) (S.1 31 - (i + 1) + 1) i = some i from if_pos (by unfold onW; exact decide_eq_true (Or.inr ⟨h30, h40⟩))]; exact ⟨rfl, rfl⟩
