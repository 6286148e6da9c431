/-! THE CLASS: how soon, how late, by which seeds -/
def hoP (v0 : Nat → Int32) (a0 : Nat → Nat → Int32) (lv sp sl cr : Nat) (R : Nat → Int32) (x : Nat) : Nat → Bool := fun i => decide (snR v0 a0 lv sp sl cr R i (18 + x) = nI 9)
def hoV (v0 : Nat → Int32) (a0 : Nat → Nat → Int32) (lv sp sl cr : Nat) (R : Nat → Int32) (x m : Nat) : Int32 := ofF (findN (hoP v0 a0 lv sp sl cr R x) (m + 1) 0) (fun i => nI i) (-2)
theorem findN_none {p : Nat → Bool} : ∀ n i, (∀ j, i ≤ j → j < i + n → p j = false) → findN p n i = none := by
  intro n
  induction n with
  | zero => intro i _; rfl
  | succ n ih =>
    intro i h
    show (if p i = true then _ else _) = _
    rw [if_neg (by rw [h i (Nat.le_refl _) (by omega)]; decide)]
    exact ih (i + 1) (fun j h1 h2 => h j (by omega) (by omega))
theorem findN_some {p : Nat → Bool} : ∀ n i j, findN p n i = some j → i ≤ j ∧ j < i + n ∧ p j = true := by
  intro n
  induction n with
  | zero => intro i j h; cases h
  | succ n ih =>
    intro i j h
    have h : (if p i = true then some i else findN p n (i + 1)) = some j := h
    by_cases hp : p i = true
    · rw [if_pos hp] at h; cases h; exact ⟨Nat.le_refl _, by omega, hp⟩
    · rw [if_neg hp] at h
      have := ih _ _ h
      exact ⟨by omega, by omega, this.2.2⟩
theorem findN_is {p : Nat → Bool} : ∀ n i j, i ≤ j → j < i + n → p j = true → (findN p n i).isSome = true := by
  intro n i j h1 h2 h3
  cases hf : findN p n i with
  | some k => rfl
  | none =>
    exfalso
    revert i
    induction n with
    | zero => intro i h1 h2; omega
    | succ n ih =>
      intro i h1 h2 hf
      have hf : (if p i = true then some i else findN p n (i + 1)) = none := hf
      by_cases hp : p i = true
      · rw [if_pos hp] at hf; cases hf
      · rw [if_neg hp] at hf
        have : i ≠ j := fun e => hp (by rw [e]; exact h3)
        exact ih (i + 1) (by omega) (by omega) hf
theorem findN_shift (p : Nat → Bool) : ∀ n i, findN p n (i + 1) = (findN (fun j => p (j + 1)) n i).map (fun j => j + 1) := by
  intro n
  induction n with
  | zero => intro i; rfl
  | succ n ih =>
    intro i
    show (if p (i + 1) = true then _ else _) = ((if p (i + 1) = true then _ else _) : Option Nat).map _
    by_cases h : p (i + 1) = true
    · rw [if_pos h, if_pos h]; rfl
    · rw [if_neg h, if_neg h]; exact ih (i + 1)
theorem hoV_sn {v0 : Nat → Int32} {a0 : Nat → Nat → Int32} {lv sp sl cr : Nat} {R : Nat → Int32} {x : Nat} (h : ¬ R (18 + x) = nI 9) (m : Nat) : findN (hoP v0 a0 lv sp sl cr R x) (m + 1) 0 = (findN (snP v0 a0 lv sp sl cr R x) m 0).map (fun j => j + 1) := by
  show (if hoP v0 a0 lv sp sl cr R x 0 = true then _ else _) = _
  rw [if_neg (show ¬ hoP v0 a0 lv sp sl cr R x 0 = true from fun z => h (of_decide_eq_true z)), findN_shift]
  rfl
theorem hoV_soon {v0 : Nat → Int32} {a0 : Nat → Nat → Int32} {lv sp sl cr : Nat} {R : Nat → Int32} {x : Nat} (h : ¬ R (18 + x) = nI 9) (m : Nat) : hoV v0 a0 lv sp sl cr R x m = ofF (findN (snP v0 a0 lv sp sl cr R x) m 0) (fun i => nI (1 + i)) (-2) := by
  unfold hoV
  rw [hoV_sn h]
  cases findN (snP v0 a0 lv sp sl cr R x) m 0 with
  | none => rfl
  | some j => show nI (j + 1) = nI (1 + j); rw [Nat.add_comm]
theorem hoV_is {v0 : Nat → Int32} {a0 : Nat → Nat → Int32} {lv sp sl cr : Nat} {R : Nat → Int32} {x m : Nat} (hm : m < 100000) : ¬ hoV v0 a0 lv sp sl cr R x m = -2 ↔ (findN (hoP v0 a0 lv sp sl cr R x) (m + 1) 0).isSome = true := by
  unfold hoV
  cases hf : findN (hoP v0 a0 lv sp sl cr R x) (m + 1) 0 with
  | none => simp [ofF]
  | some j =>
    have h1 := findN_some _ _ _ hf
    refine ⟨fun _ => rfl, fun _ e => ?_⟩
    have h2 := congrArg Int32.toInt (show nI j = -2 from e)
    rw [nI_toInt (by omega), show (-2 : Int32).toInt = -2 from rfl] at h2
    omega
theorem hoP_over {S : SD} (hs : shpS S) (hr : rngS S) {v0 : Nat → Int32} {a : Nat → Nat → Int32} {lv : Nat} {R : Nat → Int32} {x n : Nat} (hx : x < S.1 31) : (findN (hoP v0 a lv (S.1 23) (S.1 24) (S.1 31) R x) (n + 1) 0).isSome = true ↔ snR v0 a lv (S.1 23) (S.1 24) (S.1 31) R n (18 + x) = nI 9 := by
  refine ⟨fun h => ?_, fun h => findN_is _ _ n (Nat.zero_le _) (by omega) (decide_eq_true h)⟩
  obtain ⟨j, hj⟩ := Option.isSome_iff_exists.mp h
  obtain ⟨-, h2, h3⟩ := findN_some _ _ _ hj
  have h4 := of_decide_eq_true h3
  rw [show n = j + (n - j) by omega, ← sn_add, sn_stay hs hr hx (by rw [h4]; exact Or.inr (Or.inl rfl)), h4]
/-- the last one below n -/
def ltN (P : Nat → Bool) (n : Nat) : Int32 := itN (fun j l => if P j = true then nI j else l) (-2) n
theorem lt_find (P : Nat → Bool) : ∀ n, ofF (findN (fun i => P (n - i)) (n + 1) 0) (fun i => nI (n - i)) (-2) = ltN P (n + 1) := by
  intro n
  induction n with
  | zero =>
    show ofF (if P (0 - 0) = true then some 0 else none) _ _ = (if P 0 = true then nI 0 else -2)
    by_cases h : P 0 = true
    · rw [if_pos h, if_pos h]; rfl
    · rw [if_neg h, if_neg h]; rfl
  | succ n ih =>
    show ofF (if P (n + 1 - 0) = true then some 0 else _) _ _ = (if P (n + 1) = true then nI (n + 1) else ltN P (n + 1))
    rw [Nat.sub_zero]
    by_cases h : P (n + 1) = true
    · rw [if_pos h, if_pos h]; rfl
    · rw [if_neg h, if_neg h, ← ih, findN_shift]
      have e : (fun j => (fun i => P (n + 1 - i)) (j + 1)) = (fun i => P (n - i)) := by funext j; show P (n + 1 - (j + 1)) = P (n - j); congr 1; omega
      rw [e]
      cases findN (fun i => P (n - i)) (n + 1) 0 with
      | none => rfl
      | some j => show nI (n + 1 - (j + 1)) = nI (n - j); congr 1; omega
theorem lt_skip {P : Nat → Bool} {i : Nat} (h : ∀ j, i ≤ j → P j = false) : ∀ n, i ≤ n → ltN P n = ltN P i := by
  intro n
  induction n with
  | zero => intro h1; rw [show i = 0 by omega]
  | succ n ih =>
    intro h1
    by_cases e : i = n + 1
    · rw [e]
    · show (if P n = true then nI n else ltN P n) = _
      rw [if_neg (by rw [h n (by omega)]; decide), ih (by omega)]
theorem GR.up {S : SD} {H : Nat} {R : Nat → Int32} (h : GR S H R) {x : Nat} (hx : x < 5) {y : Int32} (hy : y = -3 ∨ y = -2) : GR S H (upd R (18 + x) y) := by
  refine ⟨h.1.up (hy.elim Or.inl (fun z => Or.inr (Or.inl z))), ?_⟩
  rw [upd_ne (by omega)]; exact h.2
set_option maxHeartbeats 1000000 in
theorem cc_hotw_g (d : Nat) (pv : Nat → Int32) (pa : Nat → Nat → Int32) (gv : Nat → Int32) (ga : Nat → Nat → Int32) (ov : Nat → Int32) (oa : Nat → Nat → Int32) (se : Nat → Int32) (tv : Nat → Int32) (ta : Nat → Nat → Int32) (tb : Nat → Nat → Int64) (nv : Nat → Int32) (na : Nat → Nat → Int32) (S : SD) (lv : Nat) (v : Nat → Int32) (a : Nat → Nat → Int32) (hX : CX S lv (aQ a) tv ta) (hN : CNt S (a 54) nv na) (v0 : Nat → Int32) (x m : Nat) (hx : x < S.1 31) (hm : m < 10000) (R : Nat → Int32) (hG : CNt S R gv ga) (H : Nat) (hGR : GR S H R) (hH : H ≤ 80000) (hd : 6 ≤ d) : Con mX2_hoursOnTheWay d [.ref 0, .ref 7, .int (nI x), .int (nI m), .int (v0 57), .int (v0 56)] (pW pv pa gv ga ov oa se tv ta tb nv na) (fun r W' => ∃ gv' ga' se' sk', W' = pW pv pa gv' ga' ov oa se' tv (va_up ta 22 sk') tb nv na ∧ r = some (.int (hoV v0 (aQ a) lv (S.1 23) (S.1 24) (S.1 31) R x m))) := by
  obtain ⟨hcr, hcr2⟩ := hX.cr
  obtain ⟨hsl, hsl2⟩ := hX.sl
  obtain ⟨hsp, hsp1, hsp2⟩ := hX.sp
  refine Con.of (by decide) (Nat.le_of_ble_eq_true rfl) ?_
  refine XG.blk tX2_hoursOnTheWay_ok 0 2 (pc' := 3) (pl' := [some (.ref 0), some (.ref 7), some (.int (nI x)), some (.int (nI m)), some (.int (v0 57)), some (.int (v0 56)), some (.int (nI 0))]) (st' := []) (W1 := (pW pv pa gv ga ov oa se tv ta tb nv na)) (bs := []) rfl rfl rfl ?_
  refine px_for (m + 1) (fun i => ∀ (gv9 : Nat → Int32) (ga9 : Nat → Nat → Int32) (se9 sk9 : Nat → Int32) (_ : CNt S (snR v0 (aQ a) lv (S.1 23) (S.1 24) (S.1 31) R i) gv9 ga9) (hF : findN (hoP v0 (aQ a) lv (S.1 23) (S.1 24) (S.1 31) R x) (m + 1 - i) i = findN (hoP v0 (aQ a) lv (S.1 23) (S.1 24) (S.1 31) R x) (m + 1) 0), XG mX2_hoursOnTheWay _ 0 0 3 [some (.ref 0), some (.ref 7), some (.int (nI x)), some (.int (nI m)), some (.int (v0 57)), some (.int (v0 56)), some (.int (nI i))] [] (pW pv pa gv9 ga9 ov oa se9 tv (va_up ta 22 sk9) tb nv na)) ?_ ?_ 0 (Nat.zero_le _) _ _ se (ta 22) hG rfl
  · intro gv9 ga9 se9 sk9 hN9 hF
    refine XG.blk tX2_hoursOnTheWay_ok 2 2 (pc' := 6) (pl' := [some (.ref 0), some (.ref 7), some (.int (nI x)), some (.int (nI m)), some (.int (v0 57)), some (.int (v0 56)), some (.int (nI (m + 1)))]) (st' := [(.int (nI m)), (.int (nI (m + 1)))]) (W1 := (pW pv pa gv9 ga9 ov oa se9 tv (va_up ta 22 sk9) tb nv na)) (bs := []) rfl rfl rfl ?_
    refine XG.br eX2_hoursOnTheWay_6 (P := (nI m) < (nI (m + 1))) (r := []) rfl (tgt := 53) (by decide) (fun h6 => ?_) (fun h6 => ?_)
    · skip
      have g6 : m < (m + 1) := (nI_ltI (a := m) (b := (m + 1)) (by omega) (by omega)).mp h6
      refine XG.blk tX2_hoursOnTheWay_ok 28 1 (pc' := 55) (pl' := [some (.ref 0), some (.ref 7), some (.int (nI x)), some (.int (nI m)), some (.int (v0 57)), some (.int (v0 56)), some (.int (nI (m + 1)))]) (st' := [(.int (-2))]) (W1 := (pW pv pa gv9 ga9 ov oa se9 tv (va_up ta 22 sk9) tb nv na)) (bs := []) rfl rfl rfl ?_
      refine XS.iret eX2_hoursOnTheWay_55 rfl rfl ?_
      refine ⟨_, _, _, _, rfl, ?_⟩
      unfold hoV
      rw [← hF, Nat.sub_self]; rfl
    · exfalso
      have g6 : ¬ m < (m + 1) := (fun z => h6 ((nI_ltI (a := m) (b := (m + 1)) (by omega) (by omega)).mpr z))
      omega
  · intro i hi ihi gv9 ga9 se9 sk9 hN9 hF
    refine XG.blk tX2_hoursOnTheWay_ok 2 2 (pc' := 6) (pl' := [some (.ref 0), some (.ref 7), some (.int (nI x)), some (.int (nI m)), some (.int (v0 57)), some (.int (v0 56)), some (.int (nI i))]) (st' := [(.int (nI m)), (.int (nI i))]) (W1 := (pW pv pa gv9 ga9 ov oa se9 tv (va_up ta 22 sk9) tb nv na)) (bs := []) rfl rfl rfl ?_
    refine XG.br eX2_hoursOnTheWay_6 (P := (nI m) < (nI i)) (r := []) rfl (tgt := 53) (by decide) (fun h6 => ?_) (fun h6 => ?_)
    · exfalso
      have g6 : m < i := (nI_ltI (a := m) (b := i) (by omega) (by omega)).mp h6
      omega
    · skip
      have g6 : ¬ m < i := (fun z => h6 ((nI_ltI (a := m) (b := i) (by omega) (by omega)).mpr z))
      have q1 : (nI x).toNatClampNeg = x := nI_clamp (by omega)
      have q2 : ((ga9 7) x) = ((snR v0 (aQ a) lv (S.1 23) (S.1 24) (S.1 31) R i) (18 + x)) := (hN9.2.2.2.2.2.2 x (by omega)).1
      refine XG.blk tX2_hoursOnTheWay_ok 5 5 (pc' := 17) (pl' := [some (.ref 0), some (.ref 7), some (.int (nI x)), some (.int (nI m)), some (.int (v0 57)), some (.int (v0 56)), some (.int (nI i))]) (st' := [(.int (nI 10)), (.int ((ga9 7) (nI x).toNatClampNeg))]) (W1 := (pW pv pa gv9 ga9 ov oa se9 tv (va_up ta 22 sk9) tb nv na)) (bs := [px_vb (nI x) 5]) rfl rfl (by (try simp only [q1, q2]); exact (px_all (px_vbN (by omega) (by decide)) rfl)) ?_
      simp only [q1, q2]
      refine XG.br eX2_hoursOnTheWay_17 (P := ((snR v0 (aQ a) lv (S.1 23) (S.1 24) (S.1 31) R i) (18 + x)) = (nI 10)) (r := []) rfl (tgt := 53) (by decide) (fun h17 => ?_) (fun h17 => ?_)
      · skip
        refine XG.blk tX2_hoursOnTheWay_ok 28 1 (pc' := 55) (pl' := [some (.ref 0), some (.ref 7), some (.int (nI x)), some (.int (nI m)), some (.int (v0 57)), some (.int (v0 56)), some (.int (nI i))]) (st' := [(.int (-2))]) (W1 := (pW pv pa gv9 ga9 ov oa se9 tv (va_up ta 22 sk9) tb nv na)) (bs := []) rfl rfl rfl ?_
        refine XS.iret eX2_hoursOnTheWay_55 rfl rfl ?_
        refine ⟨_, _, _, _, rfl, ?_⟩
        unfold hoV
        rw [← hF, findN_none _ _ (fun j h1 h2 => by
          unfold hoP
          refine decide_eq_false (fun z => ?_)
          rw [show j = i + (j - i) by omega, ← sn_add, sn_stay hX.2.1 hX.2.2.1 hx (by rw [h17]; exact Or.inr (Or.inr rfl)), h17] at z
          revert z; decide)]; rfl
      · skip
        have q3 : (nI x).toNatClampNeg = x := nI_clamp (by omega)
        have q4 : ((ga9 7) x) = ((snR v0 (aQ a) lv (S.1 23) (S.1 24) (S.1 31) R i) (18 + x)) := (hN9.2.2.2.2.2.2 x (by omega)).1
        refine XG.blk tX2_hoursOnTheWay_ok 11 5 (pc' := 28) (pl' := [some (.ref 0), some (.ref 7), some (.int (nI x)), some (.int (nI m)), some (.int (v0 57)), some (.int (v0 56)), some (.int (nI i))]) (st' := [(.int (nI 9)), (.int ((ga9 7) (nI x).toNatClampNeg))]) (W1 := (pW pv pa gv9 ga9 ov oa se9 tv (va_up ta 22 sk9) tb nv na)) (bs := [px_vb (nI x) 5]) rfl rfl (by (try simp only [q3, q4]); exact (px_all (px_vbN (by omega) (by decide)) rfl)) ?_
        simp only [q3, q4]
        refine XG.br eX2_hoursOnTheWay_28 (P := ¬ ((snR v0 (aQ a) lv (S.1 23) (S.1 24) (S.1 31) R i) (18 + x)) = (nI 9)) (r := []) rfl (tgt := 34) (by decide) (fun h28 => ?_) (fun h28 => ?_)
        · skip
          refine XG.blk tX2_hoursOnTheWay_ok 19 6 (pc' := 44) (pl' := [some (.ref 0), some (.ref 7), some (.int (nI x)), some (.int (nI m)), some (.int (v0 57)), some (.int (v0 56)), some (.int (nI i))]) (st' := [(.int (v0 56)), (.int (v0 57)), (.int (nI 1)), (.ref 7), (.ref 19)]) (W1 := (pW pv pa gv9 ga9 ov oa se9 tv (va_up ta 22 sk9) tb nv na)) (bs := []) rfl rfl rfl ?_
          refine XG.callV (ro := [19, 20, 21, 22, 23, 24, 25, 26, 27, 28, 29, 30, 31, 32, 33, 34, 35, 7, 8, 9, 10, 11]) (W1 := (rW se9 tv (va_up ta 22 sk9) tb gv9 ga9)) eX2_hoursOnTheWay_44 kl_X2_146 (cc_passHours (d - 1) se9 tv (va_up ta 22 sk9) tb gv9 ga9 S lv (aQ a) hX (snR v0 (aQ a) lv (S.1 23) (S.1 24) (S.1 31) R i) hN9 v0 1 (H + i) (by omega) (hGR.hours hX.2.1 hX.2.2.1 v0 (aQ a) lv i) (by omega) (by omega)) (px_fitS (by omega)) rfl ⟨rfl, by decide, by decide⟩ rfl rfl (Nat.le_of_ble_eq_true rfl) (fun r9 W9 hp9 hl9 => ?_)
          obtain ⟨se1, sk1, gv1, ga1, rfl, hN1, rfl⟩ := hp9
          rw [pt_prg]
          show XG _ _ _ _ _ _ [] (pW pv pa gv1 ga1 ov oa se1 tv (va_up ta 22 sk1) tb nv na)
          have q5 : ((nI i) + (nI 1)) = (nI (i + 1)) := px_eadd rfl rfl
          refine XG.blk tX2_hoursOnTheWay_ok 26 1 (pc' := 50) (pl' := [some (.ref 0), some (.ref 7), some (.int (nI x)), some (.int (nI m)), some (.int (v0 57)), some (.int (v0 56)), some (.int ((nI i) + (nI 1)))]) (st' := []) (W1 := (pW pv pa gv1 ga1 ov oa se1 tv (va_up ta 22 sk1) tb nv na)) (bs := []) rfl rfl rfl ?_
          simp only [q5]
          refine XG.goto eX2_hoursOnTheWay_50 (tgt := 3) (by decide) ?_
          refine ihi _ _ _ _ (by have h := hN1; rw [sn_1] at h; exact h) ?_
          rw [← hF, show m + 1 - i = m + 1 - (i + 1) + 1 by omega]
          show _ = (if (hoP v0 (aQ a) lv (S.1 23) (S.1 24) (S.1 31) R x) i = true then _ else _)
          rw [if_neg (by unfold hoP; simpa using h28)]
        · skip
          have h28 := Decidable.not_not.mp h28
          refine XG.blk tX2_hoursOnTheWay_ok 17 1 (pc' := 33) (pl' := [some (.ref 0), some (.ref 7), some (.int (nI x)), some (.int (nI m)), some (.int (v0 57)), some (.int (v0 56)), some (.int (nI i))]) (st' := [(.int (nI i))]) (W1 := (pW pv pa gv9 ga9 ov oa se9 tv (va_up ta 22 sk9) tb nv na)) (bs := []) rfl rfl rfl ?_
          refine XS.iret eX2_hoursOnTheWay_33 rfl rfl ?_
          refine ⟨_, _, _, _, rfl, ?_⟩
          unfold hoV
          rw [← hF, show m + 1 - i = (m - i) + 1 by omega, show findN (hoP v0 (aQ a) lv (S.1 23) (S.1 24) (S.1 31) R x) ((m - i) + 1) i = some i from if_pos (decide_eq_true h28)]; rfl
set_option maxHeartbeats 1000000 in
theorem cc_hotw_o (d : Nat) (pv : Nat → Int32) (pa : Nat → Nat → Int32) (gv : Nat → Int32) (ga : Nat → Nat → Int32) (ov : Nat → Int32) (oa : Nat → Nat → Int32) (se : Nat → Int32) (tv : Nat → Int32) (ta : Nat → Nat → Int32) (tb : Nat → Nat → Int64) (nv : Nat → Int32) (na : Nat → Nat → Int32) (S : SD) (lv : Nat) (v : Nat → Int32) (a : Nat → Nat → Int32) (hX : CX S lv (aQ a) tv ta) (hN : CNt S (a 54) nv na) (v0 : Nat → Int32) (x m : Nat) (hx : x < S.1 31) (hm : m < 10000) (R : Nat → Int32) (hG : CNt S R ov oa) (H : Nat) (hGR : GR S H R) (hH : H ≤ 80000) (hd : 6 ≤ d) : Con mX2_hoursOnTheWay d [.ref 0, .ref 12, .int (nI x), .int (nI m), .int (v0 57), .int (v0 56)] (pW pv pa gv ga ov oa se tv ta tb nv na) (fun r W' => ∃ ov' oa' se' sk', W' = pW pv pa gv ga ov' oa' se' tv (va_up ta 22 sk') tb nv na ∧ r = some (.int (hoV v0 (aQ a) lv (S.1 23) (S.1 24) (S.1 31) R x m))) := by
  obtain ⟨hcr, hcr2⟩ := hX.cr
  obtain ⟨hsl, hsl2⟩ := hX.sl
  obtain ⟨hsp, hsp1, hsp2⟩ := hX.sp
  refine Con.of (by decide) (Nat.le_of_ble_eq_true rfl) ?_
  refine XG.blk tX2_hoursOnTheWay_ok 0 2 (pc' := 3) (pl' := [some (.ref 0), some (.ref 12), some (.int (nI x)), some (.int (nI m)), some (.int (v0 57)), some (.int (v0 56)), some (.int (nI 0))]) (st' := []) (W1 := (pW pv pa gv ga ov oa se tv ta tb nv na)) (bs := []) rfl rfl rfl ?_
  refine px_for (m + 1) (fun i => ∀ (ov9 : Nat → Int32) (oa9 : Nat → Nat → Int32) (se9 sk9 : Nat → Int32) (_ : CNt S (snR v0 (aQ a) lv (S.1 23) (S.1 24) (S.1 31) R i) ov9 oa9) (hF : findN (hoP v0 (aQ a) lv (S.1 23) (S.1 24) (S.1 31) R x) (m + 1 - i) i = findN (hoP v0 (aQ a) lv (S.1 23) (S.1 24) (S.1 31) R x) (m + 1) 0), XG mX2_hoursOnTheWay _ 0 0 3 [some (.ref 0), some (.ref 12), some (.int (nI x)), some (.int (nI m)), some (.int (v0 57)), some (.int (v0 56)), some (.int (nI i))] [] (pW pv pa gv ga ov9 oa9 se9 tv (va_up ta 22 sk9) tb nv na)) ?_ ?_ 0 (Nat.zero_le _) _ _ se (ta 22) hG rfl
  · intro ov9 oa9 se9 sk9 hN9 hF
    refine XG.blk tX2_hoursOnTheWay_ok 2 2 (pc' := 6) (pl' := [some (.ref 0), some (.ref 12), some (.int (nI x)), some (.int (nI m)), some (.int (v0 57)), some (.int (v0 56)), some (.int (nI (m + 1)))]) (st' := [(.int (nI m)), (.int (nI (m + 1)))]) (W1 := (pW pv pa gv ga ov9 oa9 se9 tv (va_up ta 22 sk9) tb nv na)) (bs := []) rfl rfl rfl ?_
    refine XG.br eX2_hoursOnTheWay_6 (P := (nI m) < (nI (m + 1))) (r := []) rfl (tgt := 53) (by decide) (fun h6 => ?_) (fun h6 => ?_)
    · skip
      have g6 : m < (m + 1) := (nI_ltI (a := m) (b := (m + 1)) (by omega) (by omega)).mp h6
      refine XG.blk tX2_hoursOnTheWay_ok 28 1 (pc' := 55) (pl' := [some (.ref 0), some (.ref 12), some (.int (nI x)), some (.int (nI m)), some (.int (v0 57)), some (.int (v0 56)), some (.int (nI (m + 1)))]) (st' := [(.int (-2))]) (W1 := (pW pv pa gv ga ov9 oa9 se9 tv (va_up ta 22 sk9) tb nv na)) (bs := []) rfl rfl rfl ?_
      refine XS.iret eX2_hoursOnTheWay_55 rfl rfl ?_
      refine ⟨_, _, _, _, rfl, ?_⟩
      unfold hoV
      rw [← hF, Nat.sub_self]; rfl
    · exfalso
      have g6 : ¬ m < (m + 1) := (fun z => h6 ((nI_ltI (a := m) (b := (m + 1)) (by omega) (by omega)).mpr z))
      omega
  · intro i hi ihi ov9 oa9 se9 sk9 hN9 hF
    refine XG.blk tX2_hoursOnTheWay_ok 2 2 (pc' := 6) (pl' := [some (.ref 0), some (.ref 12), some (.int (nI x)), some (.int (nI m)), some (.int (v0 57)), some (.int (v0 56)), some (.int (nI i))]) (st' := [(.int (nI m)), (.int (nI i))]) (W1 := (pW pv pa gv ga ov9 oa9 se9 tv (va_up ta 22 sk9) tb nv na)) (bs := []) rfl rfl rfl ?_
    refine XG.br eX2_hoursOnTheWay_6 (P := (nI m) < (nI i)) (r := []) rfl (tgt := 53) (by decide) (fun h6 => ?_) (fun h6 => ?_)
    · exfalso
      have g6 : m < i := (nI_ltI (a := m) (b := i) (by omega) (by omega)).mp h6
      omega
    · skip
      have g6 : ¬ m < i := (fun z => h6 ((nI_ltI (a := m) (b := i) (by omega) (by omega)).mpr z))
      have q1 : (nI x).toNatClampNeg = x := nI_clamp (by omega)
      have q2 : ((oa9 7) x) = ((snR v0 (aQ a) lv (S.1 23) (S.1 24) (S.1 31) R i) (18 + x)) := (hN9.2.2.2.2.2.2 x (by omega)).1
      refine XG.blk tX2_hoursOnTheWay_ok 5 5 (pc' := 17) (pl' := [some (.ref 0), some (.ref 12), some (.int (nI x)), some (.int (nI m)), some (.int (v0 57)), some (.int (v0 56)), some (.int (nI i))]) (st' := [(.int (nI 10)), (.int ((oa9 7) (nI x).toNatClampNeg))]) (W1 := (pW pv pa gv ga ov9 oa9 se9 tv (va_up ta 22 sk9) tb nv na)) (bs := [px_vb (nI x) 5]) rfl rfl (by (try simp only [q1, q2]); exact (px_all (px_vbN (by omega) (by decide)) rfl)) ?_
      simp only [q1, q2]
      refine XG.br eX2_hoursOnTheWay_17 (P := ((snR v0 (aQ a) lv (S.1 23) (S.1 24) (S.1 31) R i) (18 + x)) = (nI 10)) (r := []) rfl (tgt := 53) (by decide) (fun h17 => ?_) (fun h17 => ?_)
      · skip
        refine XG.blk tX2_hoursOnTheWay_ok 28 1 (pc' := 55) (pl' := [some (.ref 0), some (.ref 12), some (.int (nI x)), some (.int (nI m)), some (.int (v0 57)), some (.int (v0 56)), some (.int (nI i))]) (st' := [(.int (-2))]) (W1 := (pW pv pa gv ga ov9 oa9 se9 tv (va_up ta 22 sk9) tb nv na)) (bs := []) rfl rfl rfl ?_
        refine XS.iret eX2_hoursOnTheWay_55 rfl rfl ?_
        refine ⟨_, _, _, _, rfl, ?_⟩
        unfold hoV
        rw [← hF, findN_none _ _ (fun j h1 h2 => by
          unfold hoP
          refine decide_eq_false (fun z => ?_)
          rw [show j = i + (j - i) by omega, ← sn_add, sn_stay hX.2.1 hX.2.2.1 hx (by rw [h17]; exact Or.inr (Or.inr rfl)), h17] at z
          revert z; decide)]; rfl
      · skip
        have q3 : (nI x).toNatClampNeg = x := nI_clamp (by omega)
        have q4 : ((oa9 7) x) = ((snR v0 (aQ a) lv (S.1 23) (S.1 24) (S.1 31) R i) (18 + x)) := (hN9.2.2.2.2.2.2 x (by omega)).1
        refine XG.blk tX2_hoursOnTheWay_ok 11 5 (pc' := 28) (pl' := [some (.ref 0), some (.ref 12), some (.int (nI x)), some (.int (nI m)), some (.int (v0 57)), some (.int (v0 56)), some (.int (nI i))]) (st' := [(.int (nI 9)), (.int ((oa9 7) (nI x).toNatClampNeg))]) (W1 := (pW pv pa gv ga ov9 oa9 se9 tv (va_up ta 22 sk9) tb nv na)) (bs := [px_vb (nI x) 5]) rfl rfl (by (try simp only [q3, q4]); exact (px_all (px_vbN (by omega) (by decide)) rfl)) ?_
        simp only [q3, q4]
        refine XG.br eX2_hoursOnTheWay_28 (P := ¬ ((snR v0 (aQ a) lv (S.1 23) (S.1 24) (S.1 31) R i) (18 + x)) = (nI 9)) (r := []) rfl (tgt := 34) (by decide) (fun h28 => ?_) (fun h28 => ?_)
        · skip
          refine XG.blk tX2_hoursOnTheWay_ok 19 6 (pc' := 44) (pl' := [some (.ref 0), some (.ref 12), some (.int (nI x)), some (.int (nI m)), some (.int (v0 57)), some (.int (v0 56)), some (.int (nI i))]) (st' := [(.int (v0 56)), (.int (v0 57)), (.int (nI 1)), (.ref 12), (.ref 19)]) (W1 := (pW pv pa gv ga ov9 oa9 se9 tv (va_up ta 22 sk9) tb nv na)) (bs := []) rfl rfl rfl ?_
          refine XG.callV (ro := [19, 20, 21, 22, 23, 24, 25, 26, 27, 28, 29, 30, 31, 32, 33, 34, 35, 12, 13, 14, 15, 16]) (W1 := (rW se9 tv (va_up ta 22 sk9) tb ov9 oa9)) eX2_hoursOnTheWay_44 kl_X2_146 (cc_passHours (d - 1) se9 tv (va_up ta 22 sk9) tb ov9 oa9 S lv (aQ a) hX (snR v0 (aQ a) lv (S.1 23) (S.1 24) (S.1 31) R i) hN9 v0 1 (H + i) (by omega) (hGR.hours hX.2.1 hX.2.2.1 v0 (aQ a) lv i) (by omega) (by omega)) (px_fitS (by omega)) rfl ⟨rfl, by decide, by decide⟩ rfl rfl (Nat.le_of_ble_eq_true rfl) (fun r9 W9 hp9 hl9 => ?_)
          obtain ⟨se1, sk1, ov1, oa1, rfl, hN1, rfl⟩ := hp9
          rw [pt_pro]
          show XG _ _ _ _ _ _ [] (pW pv pa gv ga ov1 oa1 se1 tv (va_up ta 22 sk1) tb nv na)
          have q5 : ((nI i) + (nI 1)) = (nI (i + 1)) := px_eadd rfl rfl
          refine XG.blk tX2_hoursOnTheWay_ok 26 1 (pc' := 50) (pl' := [some (.ref 0), some (.ref 12), some (.int (nI x)), some (.int (nI m)), some (.int (v0 57)), some (.int (v0 56)), some (.int ((nI i) + (nI 1)))]) (st' := []) (W1 := (pW pv pa gv ga ov1 oa1 se1 tv (va_up ta 22 sk1) tb nv na)) (bs := []) rfl rfl rfl ?_
          simp only [q5]
          refine XG.goto eX2_hoursOnTheWay_50 (tgt := 3) (by decide) ?_
          refine ihi _ _ _ _ (by have h := hN1; rw [sn_1] at h; exact h) ?_
          rw [← hF, show m + 1 - i = m + 1 - (i + 1) + 1 by omega]
          show _ = (if (hoP v0 (aQ a) lv (S.1 23) (S.1 24) (S.1 31) R x) i = true then _ else _)
          rw [if_neg (by unfold hoP; simpa using h28)]
        · skip
          have h28 := Decidable.not_not.mp h28
          refine XG.blk tX2_hoursOnTheWay_ok 17 1 (pc' := 33) (pl' := [some (.ref 0), some (.ref 12), some (.int (nI x)), some (.int (nI m)), some (.int (v0 57)), some (.int (v0 56)), some (.int (nI i))]) (st' := [(.int (nI i))]) (W1 := (pW pv pa gv ga ov9 oa9 se9 tv (va_up ta 22 sk9) tb nv na)) (bs := []) rfl rfl rfl ?_
          refine XS.iret eX2_hoursOnTheWay_33 rfl rfl ?_
          refine ⟨_, _, _, _, rfl, ?_⟩
          unfold hoV
          rw [← hF, show m + 1 - i = (m - i) + 1 by omega, show findN (hoP v0 (aQ a) lv (S.1 23) (S.1 24) (S.1 31) R x) ((m - i) + 1) i = some i from if_pos (decide_eq_true h28)]; rfl
set_option maxHeartbeats 1000000 in
theorem cc_hoursUntilOver (d : Nat) (pv : Nat → Int32) (pa : Nat → Nat → Int32) (gv : Nat → Int32) (ga : Nat → Nat → Int32) (ov : Nat → Int32) (oa : Nat → Nat → Int32) (se : Nat → Int32) (tv : Nat → Int32) (ta : Nat → Nat → Int32) (tb : Nat → Nat → Int64) (nv : Nat → Int32) (na : Nat → Nat → Int32) (S : SD) (lv : Nat) (v : Nat → Int32) (a : Nat → Nat → Int32) (hX : CX S lv (aQ a) tv ta) (hN : CNt S (a 54) nv na) (x : Nat) (hx : x < S.1 31) (H : Nat) (hGR : GR S H (a 54)) (hH : H ≤ 50000) (hd : 7 ≤ d) : Con mX2_hoursUntilOver d [.ref 0, .ref 36, .int (nI x)] (pW pv pa gv ga ov oa se tv ta tb nv na) (fun r W' => ∃ pv' pa' gv' ga' ov' oa' se' sk', W' = pW pv' pa' gv' ga' ov' oa' se' tv (va_up ta 22 sk') tb nv na ∧ r = some (.int (ofF (findN (snP (vQ v a lv (nI 1)) (aQ a) lv (S.1 23) (S.1 24) (S.1 31) (upd (a 54) (18 + x) (-3)) x) 99 0) (fun i => nI (1 + i)) (-2)))) := by
  obtain ⟨hcr, hcr2⟩ := hX.cr
  obtain ⟨hsl, hsl2⟩ := hX.sl
  obtain ⟨hsp, hsp1, hsp2⟩ := hX.sp
  refine Con.of (by decide) (Nat.le_of_ble_eq_true rfl) ?_
  refine XG.blk tX2_hoursUntilOver_ok 0 3 (pc' := 5) (pl' := [some (.ref 0), some (.ref 36), some (.int (nI x))]) (st' := [(.ref 36), (.ref 7)]) (W1 := (pW pv pa gv ga ov oa se tv ta tb nv na)) (bs := []) rfl rfl rfl ?_
  refine XG.callV (ro := [7, 8, 9, 10, 11, 36, 37, 38, 39, 40]) (W1 := (cW gv ga nv na)) eX2_hoursUntilOver_5 kl_X2_97 (cc_copy (d - 1) gv ga nv na (by omega)) (px_fitS (by omega)) rfl ⟨rfl, by decide, by decide⟩ rfl rfl (Nat.le_of_ble_eq_true rfl) (fun r9 W9 hp9 hl9 => ?_)
  obtain ⟨gv1, ga1, rfl, hE1, rfl⟩ := hp9
  have hN1 : CNt S (a 54) gv1 ga1 := hN.eq hsl2 hE1
  rw [pt_pcg]
  show XG _ _ _ _ _ _ [] (pW pv pa gv1 ga1 ov oa se tv ta tb nv na)
  have q1 : (nI x).toNatClampNeg = x := nI_clamp (by omega)
  refine XG.blk tX2_hoursUntilOver_ok 4 6 (pc' := 19) (pl' := [some (.ref 0), some (.ref 36), some (.int (nI x))]) (st' := []) (W1 := (pW pv pa gv1 (va_up ga1 7 (upd (ga1 7) (nI x).toNatClampNeg (-3))) ov oa se tv ta tb nv na)) (bs := [px_vb (nI x) 5]) rfl rfl (by (try simp only [q1]); exact (px_all (px_vbN (by omega) (by decide)) rfl)) ?_
  simp only [q1]
  have hN8 := hN1.wh (c := x) (by omega) (-3) hsl2
  have q2 : (tv 6) = (a 37 lv) := hX.sd.1.trans hX.sd.2.2.symm
  refine XG.blk tX2_hoursUntilOver_ok 10 10 (pc' := 38) (pl' := [some (.ref 0), some (.ref 36), some (.int (nI x))]) (st' := [(.int (tv 6)), (.int (nI 1)), (.int (nI 99)), (.int (nI x)), (.ref 7), (.ref 0)]) (W1 := (pW pv pa gv1 (va_up ga1 7 (upd (ga1 7) x (-3))) ov oa se tv ta tb nv na)) (bs := []) rfl rfl rfl ?_
  simp only [q2]
  refine XG.callV0 eX2_hoursUntilOver_38 kl_X2_159 (cc_hotw_g (d - 1) pv pa gv1 (va_up ga1 7 (upd (ga1 7) x (-3))) ov oa se tv ta tb nv na S lv v a hX hN (vQ v a lv (nI 1)) x 99 (by omega) (by omega) (upd (a 54) (18 + x) (-3)) hN8 H (hGR.up (by omega) (Or.inl rfl)) (by omega) (by omega)) (px_fitS (by omega)) rfl rfl rfl (Nat.le_of_ble_eq_true rfl) (fun r9 W9 hp9 hl9 => ?_)
  obtain ⟨gv2, ga2, se2, sk2, rfl, rfl⟩ := hp9
  refine XS.iret eX2_hoursUntilOver_41 rfl rfl ?_
  rw [← hoV_soon (by rw [upd_eq]; decide)]
  exact ⟨_, _, _, _, _, _, _, _, rfl, rfl⟩
theorem sn_h28 {S : SD} {v0 : Nat → Int32} {a : Nat → Nat → Int32} {lv : Nat} {R : Nat → Int32} {h : Nat} (hs : shpS S) (hh : R 28 = nI h) : ∀ n, snR v0 a lv (S.1 23) (S.1 24) (S.1 31) R n 28 = nI (h + n) := by
  intro n
  induction n with
  | zero => exact hh
  | succ n ih =>
    show hourF v0 a lv (S.1 23) (S.1 24) (S.1 31) (snR v0 a lv (S.1 23) (S.1 24) (S.1 31) R n) 28 = _
    rw [hourS_28 hs, ih, nI_add, Nat.add_assoc]
set_option maxHeartbeats 1000000 in
theorem cc_latestStart (d : Nat) (pv : Nat → Int32) (pa : Nat → Nat → Int32) (gv : Nat → Int32) (ga : Nat → Nat → Int32) (ov : Nat → Int32) (oa : Nat → Nat → Int32) (se : Nat → Int32) (tv : Nat → Int32) (ta : Nat → Nat → Int32) (tb : Nat → Nat → Int64) (nv : Nat → Int32) (na : Nat → Nat → Int32) (S : SD) (lv : Nat) (v : Nat → Int32) (a : Nat → Nat → Int32) (hX : CX S lv (aQ a) tv ta) (hN : CNt S (a 54) nv na) (x : Nat) (hx : x < S.1 31) (h : Nat) (hh : a 54 28 = nI h) (hh2 : h ≤ 50000) (hGR : GR S h (a 54)) (hd : 7 ≤ d) : Con mX2_latestStart d [.ref 0, .ref 36, .int (nI x)] (pW pv pa gv ga ov oa se tv ta tb nv na) (fun r W' => ∃ pv' pa' gv' ga' ov' oa' se' sk', W' = pW pv' pa' gv' ga' ov' oa' se' tv (va_up ta 22 sk') tb nv na ∧ r = some (.int (ltN (inT v a lv (S.1 23) (S.1 24) (S.1 31) x) 41))) := by
  obtain ⟨hcr, hcr2⟩ := hX.cr
  obtain ⟨hsl, hsl2⟩ := hX.sl
  obtain ⟨hsp, hsp1, hsp2⟩ := hX.sp
  obtain ⟨hdw, hdw2, hdw3⟩ := hX.dw
  have hdw3 : a 35 lv = nI (S.1 35) := hdw3
  refine Con.of (by decide) (Nat.le_of_ble_eq_true rfl) ?_
  refine XG.blk tX2_latestStart_ok 0 5 (pc' := 8) (pl' := [some (.ref 0), some (.ref 36), some (.int (nI x)), some (.int (-2)), none]) (st' := [(.ref 36), (.ref 7)]) (W1 := (pW pv pa gv ga ov oa se tv ta tb nv na)) (bs := []) rfl rfl rfl ?_
  refine XG.callV (ro := [7, 8, 9, 10, 11, 36, 37, 38, 39, 40]) (W1 := (cW gv ga nv na)) eX2_latestStart_8 kl_X2_97 (cc_copy (d - 1) gv ga nv na (by omega)) (px_fitS (by omega)) rfl ⟨rfl, by decide, by decide⟩ rfl rfl (Nat.le_of_ble_eq_true rfl) (fun r9 W9 hp9 hl9 => ?_)
  obtain ⟨gv1, ga1, rfl, hE1, rfl⟩ := hp9
  have hN1 : CNt S (a 54) gv1 ga1 := hN.eq hsl2 hE1
  rw [pt_pcg]
  show XG _ _ _ _ _ _ [] (pW pv pa gv1 ga1 ov oa se tv ta tb nv na)
  refine XG.blk tX2_latestStart_ok 6 2 (pc' := 14) (pl' := [some (.ref 0), some (.ref 36), some (.int (nI x)), some (.int (-2)), some (.int (nI 0))]) (st' := []) (W1 := (pW pv pa gv1 ga1 ov oa se tv ta tb nv na)) (bs := []) rfl rfl rfl ?_
  refine px_for 41 (fun i => ∀ (gv9 : Nat → Int32) (ga9 : Nat → Nat → Int32) (ov9 : Nat → Int32) (oa9 : Nat → Nat → Int32) (se9 sk9 : Nat → Int32) (_ : CNt S (snR (vQ v a lv (nI 1)) (aQ a) lv (S.1 23) (S.1 24) (S.1 31) (a 54) i) gv9 ga9), XG mX2_latestStart _ 0 0 14 [some (.ref 0), some (.ref 36), some (.int (nI x)), some (.int (ltN (inT v a lv (S.1 23) (S.1 24) (S.1 31) x) i)), some (.int (nI i))] [] (pW pv pa gv9 ga9 ov9 oa9 se9 tv (va_up ta 22 sk9) tb nv na)) ?_ ?_ 0 (Nat.zero_le _) _ _ _ _ se (ta 22) hN1
  · intro gv9 ga9 ov9 oa9 se9 sk9 hN9
    refine XG.blk tX2_latestStart_ok 8 2 (pc' := 18) (pl' := [some (.ref 0), some (.ref 36), some (.int (nI x)), some (.int (ltN (inT v a lv (S.1 23) (S.1 24) (S.1 31) x) 41)), some (.int (nI 41))]) (st' := [(.int (nI 40)), (.int (nI 41))]) (W1 := (pW pv pa gv9 ga9 ov9 oa9 se9 tv (va_up ta 22 sk9) tb nv na)) (bs := []) rfl rfl rfl ?_
    refine XG.br eX2_latestStart_18 (P := (nI 40) < (nI 41)) (r := []) rfl (tgt := 138) (by decide) (fun h18 => ?_) (fun h18 => ?_)
    · skip
      have g18 : 40 < 41 := (nI_ltI (a := 40) (b := 41) (by omega) (by omega)).mp h18
      refine XG.blk tX2_latestStart_ok 65 1 (pc' := 139) (pl' := [some (.ref 0), some (.ref 36), some (.int (nI x)), some (.int (ltN (inT v a lv (S.1 23) (S.1 24) (S.1 31) x) 41)), some (.int (nI 41))]) (st' := [(.int (ltN (inT v a lv (S.1 23) (S.1 24) (S.1 31) x) 41))]) (W1 := (pW pv pa gv9 ga9 ov9 oa9 se9 tv (va_up ta 22 sk9) tb nv na)) (bs := []) rfl rfl rfl ?_
      refine XS.iret eX2_latestStart_139 rfl rfl ?_
      exact ⟨_, _, _, _, _, _, _, _, rfl, rfl⟩
    · exfalso
      have g18 : ¬ 40 < 41 := (fun z => h18 ((nI_ltI (a := 40) (b := 41) (by omega) (by omega)).mpr z))
      omega
  · intro i hi ihi gv9 ga9 ov9 oa9 se9 sk9 hN9
    refine XG.blk tX2_latestStart_ok 8 2 (pc' := 18) (pl' := [some (.ref 0), some (.ref 36), some (.int (nI x)), some (.int (ltN (inT v a lv (S.1 23) (S.1 24) (S.1 31) x) i)), some (.int (nI i))]) (st' := [(.int (nI 40)), (.int (nI i))]) (W1 := (pW pv pa gv9 ga9 ov9 oa9 se9 tv (va_up ta 22 sk9) tb nv na)) (bs := []) rfl rfl rfl ?_
    refine XG.br eX2_latestStart_18 (P := (nI 40) < (nI i)) (r := []) rfl (tgt := 138) (by decide) (fun h18 => ?_) (fun h18 => ?_)
    · exfalso
      have g18 : 40 < i := (nI_ltI (a := 40) (b := i) (by omega) (by omega)).mp h18
      omega
    · skip
      have g18 : ¬ 40 < i := (fun z => h18 ((nI_ltI (a := 40) (b := i) (by omega) (by omega)).mpr z))
      have h28 : (snR (vQ v a lv (nI 1)) (aQ a) lv (S.1 23) (S.1 24) (S.1 31) (a 54) i) 28 = nI (h + i) := sn_h28 hX.2.1 hh i
      have q1 : (gv9 0) = (nI (h + i)) := hN9.1.trans h28
      have q2 : (tv 4) = (nI (S.1 35)) := hdw
      refine XG.blk tX2_latestStart_ok 11 7 (pc' := 38) (pl' := [some (.ref 0), some (.ref 36), some (.int (nI x)), some (.int (ltN (inT v a lv (S.1 23) (S.1 24) (S.1 31) x) i)), some (.int (nI i))]) (st' := [(.int (tv 4)), (.int (gv9 0))]) (W1 := (pW pv pa gv9 ga9 ov9 oa9 se9 tv (va_up ta 22 sk9) tb nv na)) (bs := []) rfl rfl rfl ?_
      simp only [q1, q2]
      refine XG.br eX2_latestStart_38 (P := (nI (S.1 35)) ≤ (nI (h + i))) (r := []) rfl (tgt := 138) (by decide) (fun h38 => ?_) (fun h38 => ?_)
      · skip
        have g38 : (S.1 35) ≤ (h + i) := (nI_leI (a := (S.1 35)) (b := (h + i)) (by omega) (by omega)).mp h38
        refine XG.blk tX2_latestStart_ok 65 1 (pc' := 139) (pl' := [some (.ref 0), some (.ref 36), some (.int (nI x)), some (.int (ltN (inT v a lv (S.1 23) (S.1 24) (S.1 31) x) i)), some (.int (nI i))]) (st' := [(.int (ltN (inT v a lv (S.1 23) (S.1 24) (S.1 31) x) i))]) (W1 := (pW pv pa gv9 ga9 ov9 oa9 se9 tv (va_up ta 22 sk9) tb nv na)) (bs := []) rfl rfl rfl ?_
        refine XS.iret eX2_latestStart_139 rfl rfl ?_
        refine ⟨_, _, _, _, _, _, _, _, rfl, ?_⟩
        rw [lt_skip (i := i) (fun j hj => ?_) 41 (by omega)]
        unfold inT
        rw [hdw3, hh]; unfold ixN
        rw [nI_clamp (by omega), nI_clamp (by omega), show S.1 35 - (h + j) = 0 by omega]; rfl
      · skip
        have g38 : ¬ (S.1 35) ≤ (h + i) := (fun z => h38 ((nI_leI (a := (S.1 35)) (b := (h + i)) (by omega) (by omega)).mpr z))
        refine XG.blk tX2_latestStart_ok 19 4 (pc' := 49) (pl' := [some (.ref 0), some (.ref 36), some (.int (nI x)), some (.int (ltN (inT v a lv (S.1 23) (S.1 24) (S.1 31) x) i)), some (.int (nI i))]) (st' := [(.ref 7), (.ref 12)]) (W1 := (pW pv pa gv9 ga9 ov9 oa9 se9 tv (va_up ta 22 sk9) tb nv na)) (bs := []) rfl rfl rfl ?_
        refine XG.callV (ro := [12, 13, 14, 15, 16, 7, 8, 9, 10, 11]) (W1 := (cW ov9 oa9 gv9 ga9)) eX2_latestStart_49 kl_X2_97 (cc_copy (d - 1) ov9 oa9 gv9 ga9 (by omega)) (px_fitS (by omega)) rfl ⟨rfl, by decide, by decide⟩ rfl rfl (Nat.le_of_ble_eq_true rfl) (fun r9 W9 hp9 hl9 => ?_)
        obtain ⟨ov2, oa2, rfl, hE2, rfl⟩ := hp9
        have hN2 : CNt S (snR (vQ v a lv (nI 1)) (aQ a) lv (S.1 23) (S.1 24) (S.1 31) (a 54) i) ov2 oa2 := hN9.eq hsl2 hE2
        rw [pt_pco]
        show XG _ _ _ _ _ _ [] (pW pv pa gv9 ga9 ov2 oa2 se9 tv (va_up ta 22 sk9) tb nv na)
        have q3 : (nI x).toNatClampNeg = x := nI_clamp (by omega)
        refine XG.blk tX2_latestStart_ok 24 6 (pc' := 63) (pl' := [some (.ref 0), some (.ref 36), some (.int (nI x)), some (.int (ltN (inT v a lv (S.1 23) (S.1 24) (S.1 31) x) i)), some (.int (nI i))]) (st' := []) (W1 := (pW pv pa gv9 ga9 ov2 (va_up oa2 7 (upd (oa2 7) (nI x).toNatClampNeg (-3))) se9 tv (va_up ta 22 sk9) tb nv na)) (bs := [px_vb (nI x) 5]) rfl rfl (by (try simp only [q3]); exact (px_all (px_vbN (by omega) (by decide)) rfl)) ?_
        simp only [q3]
        have hN7 := hN2.wh (c := x) (by omega) (-3) hsl2
        have hGi := hGR.hours hX.2.1 hX.2.2.1 (vQ v a lv (nI 1)) (aQ a) lv i
        have q4 : (tv 4) = (nI (S.1 35)) := hdw
        have q5 : (gv9 0) = (nI (h + i)) := hN9.1.trans h28
        have q6 : ((nI (S.1 35)) - (nI (h + i))) = (nI ((S.1 35) - (h + i))) := px_esub rfl rfl (by omega)
        have q7 : (tv 6) = (a 37 lv) := hX.sd.1.trans hX.sd.2.2.symm
        refine XG.blk tX2_latestStart_ok 30 17 (pc' := 98) (pl' := [some (.ref 0), some (.ref 36), some (.int (nI x)), some (.int (ltN (inT v a lv (S.1 23) (S.1 24) (S.1 31) x) i)), some (.int (nI i))]) (st' := [(.int (tv 6)), (.int (nI 1)), (.int ((tv 4) - (gv9 0))), (.int (nI x)), (.ref 12), (.ref 0)]) (W1 := (pW pv pa gv9 ga9 ov2 (va_up oa2 7 (upd (oa2 7) x (-3))) se9 tv (va_up ta 22 sk9) tb nv na)) (bs := []) rfl rfl rfl ?_
        simp only [q4, q5, q6, q7]
        refine XG.callV0 eX2_latestStart_98 kl_X2_159 (cc_hotw_o (d - 1) pv pa gv9 ga9 ov2 (va_up oa2 7 (upd (oa2 7) x (-3))) se9 tv (va_up ta 22 sk9) tb nv na S lv v a hX hN (vQ v a lv (nI 1)) x ((S.1 35) - (h + i)) (by omega) (by omega) (upd (snR (vQ v a lv (nI 1)) (aQ a) lv (S.1 23) (S.1 24) (S.1 31) (a 54) i) (18 + x) (-3)) hN7 (h + i) (hGi.up (by omega) (Or.inl rfl)) (by omega) (by omega)) (px_fitS (by omega)) rfl rfl rfl (Nat.le_of_ble_eq_true rfl) (fun r9 W9 hp9 hl9 => ?_)
        obtain ⟨ov3, oa3, se3, sk3, rfl, rfl⟩ := hp9
        refine XG.blk tX2_latestStart_ok 48 1 (pc' := 103) (pl' := [some (.ref 0), some (.ref 36), some (.int (nI x)), some (.int (ltN (inT v a lv (S.1 23) (S.1 24) (S.1 31) x) i)), some (.int (nI i))]) (st' := [(.int (-2)), (.int (hoV (vQ v a lv (nI 1)) (aQ a) lv (S.1 23) (S.1 24) (S.1 31) (upd (snR (vQ v a lv (nI 1)) (aQ a) lv (S.1 23) (S.1 24) (S.1 31) (a 54) i) (18 + x) (-3)) x ((S.1 35) - (h + i))))]) (W1 := (pW pv pa gv9 ga9 ov3 oa3 se3 tv (va_up ta 22 sk3) tb nv na)) (bs := []) rfl rfl rfl ?_
        refine XG.br eX2_latestStart_103 (P := (hoV (vQ v a lv (nI 1)) (aQ a) lv (S.1 23) (S.1 24) (S.1 31) (upd (snR (vQ v a lv (nI 1)) (aQ a) lv (S.1 23) (S.1 24) (S.1 31) (a 54) i) (18 + x) (-3)) x ((S.1 35) - (h + i))) = (-2)) (r := []) rfl (tgt := 109) (by decide) (fun h103 => ?_) (fun h103 => ?_)
        · skip
          have q8 : (tv 6) = (a 37 lv) := hX.sd.1.trans hX.sd.2.2.symm
          refine XG.blk tX2_latestStart_ok 52 10 (pc' := 129) (pl' := [some (.ref 0), some (.ref 36), some (.int (nI x)), some (.int (ltN (inT v a lv (S.1 23) (S.1 24) (S.1 31) x) i)), some (.int (nI i))]) (st' := [(.int (tv 6)), (.int (nI 1)), (.int (nI 1)), (.ref 7), (.ref 19)]) (W1 := (pW pv pa gv9 ga9 ov3 oa3 se3 tv (va_up ta 22 sk3) tb nv na)) (bs := []) rfl rfl rfl ?_
          simp only [q8]
          refine XG.callV (ro := [19, 20, 21, 22, 23, 24, 25, 26, 27, 28, 29, 30, 31, 32, 33, 34, 35, 7, 8, 9, 10, 11]) (W1 := (rW se3 tv (va_up ta 22 sk3) tb gv9 ga9)) eX2_latestStart_129 kl_X2_146 (cc_passHours (d - 1) se3 tv (va_up ta 22 sk3) tb gv9 ga9 S lv (aQ a) hX (snR (vQ v a lv (nI 1)) (aQ a) lv (S.1 23) (S.1 24) (S.1 31) (a 54) i) hN9 (vQ v a lv (nI 1)) 1 (h + i) (by omega) hGi (by omega) (by omega)) (px_fitS (by omega)) rfl ⟨rfl, by decide, by decide⟩ rfl rfl (Nat.le_of_ble_eq_true rfl) (fun r9 W9 hp9 hl9 => ?_)
          obtain ⟨se4, sk4, gv4, ga4, rfl, hN4, rfl⟩ := hp9
          rw [pt_prg]
          show XG _ _ _ _ _ _ [] (pW pv pa gv4 ga4 ov3 oa3 se4 tv (va_up ta 22 sk4) tb nv na)
          have q9 : ((nI i) + (nI 1)) = (nI (i + 1)) := px_eadd rfl rfl
          refine XG.blk tX2_latestStart_ok 63 1 (pc' := 135) (pl' := [some (.ref 0), some (.ref 36), some (.int (nI x)), some (.int (ltN (inT v a lv (S.1 23) (S.1 24) (S.1 31) x) i)), some (.int ((nI i) + (nI 1)))]) (st' := []) (W1 := (pW pv pa gv4 ga4 ov3 oa3 se4 tv (va_up ta 22 sk4) tb nv na)) (bs := []) rfl rfl rfl ?_
          simp only [q9]
          refine XG.goto eX2_latestStart_135 (tgt := 14) (by decide) ?_
          have hin : ¬ hoV (vQ v a lv (nI 1)) (aQ a) lv (S.1 23) (S.1 24) (S.1 31) (upd (snR (vQ v a lv (nI 1)) (aQ a) lv (S.1 23) (S.1 24) (S.1 31) (a 54) i) (18 + x) (-3)) x (S.1 35 - (h + i)) = -2 ↔ inT v a lv (S.1 23) (S.1 24) (S.1 31) x i = true := by
            rw [hoV_is (by omega), hoV_sn (by rw [upd_eq]; decide), Option.isSome_map]
            unfold inT itR
            rw [hdw3, hh]; unfold ixN; rw [nI_clamp (by omega), nI_clamp (by omega)]
          rw [show (ltN (inT v a lv (S.1 23) (S.1 24) (S.1 31) x) (i + 1)) = (ltN (inT v a lv (S.1 23) (S.1 24) (S.1 31) x) i) from if_neg (fun z => (hin.mpr z) h103)] at ihi
          exact ihi _ _ _ _ _ _ (by have h := hN4; rw [sn_1] at h; exact h)
        · skip
          have q10 : (tv 6) = (a 37 lv) := hX.sd.1.trans hX.sd.2.2.symm
          refine XG.blk tX2_latestStart_ok 50 12 (pc' := 129) (pl' := [some (.ref 0), some (.ref 36), some (.int (nI x)), some (.int (nI i)), some (.int (nI i))]) (st' := [(.int (tv 6)), (.int (nI 1)), (.int (nI 1)), (.ref 7), (.ref 19)]) (W1 := (pW pv pa gv9 ga9 ov3 oa3 se3 tv (va_up ta 22 sk3) tb nv na)) (bs := []) rfl rfl rfl ?_
          simp only [q10]
          refine XG.callV (ro := [19, 20, 21, 22, 23, 24, 25, 26, 27, 28, 29, 30, 31, 32, 33, 34, 35, 7, 8, 9, 10, 11]) (W1 := (rW se3 tv (va_up ta 22 sk3) tb gv9 ga9)) eX2_latestStart_129 kl_X2_146 (cc_passHours (d - 1) se3 tv (va_up ta 22 sk3) tb gv9 ga9 S lv (aQ a) hX (snR (vQ v a lv (nI 1)) (aQ a) lv (S.1 23) (S.1 24) (S.1 31) (a 54) i) hN9 (vQ v a lv (nI 1)) 1 (h + i) (by omega) hGi (by omega) (by omega)) (px_fitS (by omega)) rfl ⟨rfl, by decide, by decide⟩ rfl rfl (Nat.le_of_ble_eq_true rfl) (fun r9 W9 hp9 hl9 => ?_)
          obtain ⟨se4, sk4, gv4, ga4, rfl, hN4, rfl⟩ := hp9
          rw [pt_prg]
          show XG _ _ _ _ _ _ [] (pW pv pa gv4 ga4 ov3 oa3 se4 tv (va_up ta 22 sk4) tb nv na)
          have q11 : ((nI i) + (nI 1)) = (nI (i + 1)) := px_eadd rfl rfl
          refine XG.blk tX2_latestStart_ok 63 1 (pc' := 135) (pl' := [some (.ref 0), some (.ref 36), some (.int (nI x)), some (.int (nI i)), some (.int ((nI i) + (nI 1)))]) (st' := []) (W1 := (pW pv pa gv4 ga4 ov3 oa3 se4 tv (va_up ta 22 sk4) tb nv na)) (bs := []) rfl rfl rfl ?_
          simp only [q11]
          refine XG.goto eX2_latestStart_135 (tgt := 14) (by decide) ?_
          have hin : ¬ hoV (vQ v a lv (nI 1)) (aQ a) lv (S.1 23) (S.1 24) (S.1 31) (upd (snR (vQ v a lv (nI 1)) (aQ a) lv (S.1 23) (S.1 24) (S.1 31) (a 54) i) (18 + x) (-3)) x (S.1 35 - (h + i)) = -2 ↔ inT v a lv (S.1 23) (S.1 24) (S.1 31) x i = true := by
            rw [hoV_is (by omega), hoV_sn (by rw [upd_eq]; decide), Option.isSome_map]
            unfold inT itR
            rw [hdw3, hh]; unfold ixN; rw [nI_clamp (by omega), nI_clamp (by omega)]
          rw [show (ltN (inT v a lv (S.1 23) (S.1 24) (S.1 31) x) (i + 1)) = nI i from if_pos (hin.mp h103)] at ihi
          exact ihi _ _ _ _ _ _ (by have h := hN4; rw [sn_1] at h; exact h)
set_option maxHeartbeats 1000000 in
theorem cc_seedsOver (d : Nat) (pv : Nat → Int32) (pa : Nat → Nat → Int32) (gv : Nat → Int32) (ga : Nat → Nat → Int32) (ov : Nat → Int32) (oa : Nat → Nat → Int32) (se : Nat → Int32) (tv : Nat → Int32) (ta : Nat → Nat → Int32) (tb : Nat → Nat → Int64) (nv : Nat → Int32) (na : Nat → Nat → Int32) (S : SD) (lv : Nat) (v : Nat → Int32) (a : Nat → Nat → Int32) (hX : CX S lv (aQ a) tv ta) (hN : CNt S (a 54) nv na) (x m n : Nat) (hx : x < S.1 31) (hm : m < 10000) (hn : n < 10000) (H : Nat) (hGR : GR S H (a 54)) (hH : H ≤ 50000) (hd : 7 ≤ d) : Con mX2_seedsOver d [.ref 0, .ref 36, .int (nI x), .int (nI m), .int (nI n)] (pW pv pa gv ga ov oa se tv ta tb nv na) (fun r W' => ∃ pv' pa' gv' ga' ov' oa' se' sk', W' = pW pv' pa' gv' ga' ov' oa' se' tv (va_up ta 22 sk') tb nv na ∧ r = some (.int (itN (yrF v a lv (S.1 23) (S.1 24) (S.1 31) x m) (nI 0) n))) := by
  obtain ⟨hcr, hcr2⟩ := hX.cr
  obtain ⟨hsl, hsl2⟩ := hX.sl
  obtain ⟨hsp, hsp1, hsp2⟩ := hX.sp
  refine Con.of (by decide) (Nat.le_of_ble_eq_true rfl) ?_
  refine XG.blk tX2_seedsOver_ok 0 4 (pc' := 6) (pl' := [some (.ref 0), some (.ref 36), some (.int (nI x)), some (.int (nI m)), some (.int (nI n)), some (.int (nI 0)), some (.int (nI 0))]) (st' := []) (W1 := (pW pv pa gv ga ov oa se tv ta tb nv na)) (bs := []) rfl rfl rfl ?_
  refine px_for n (fun i => ∀ (gv9 : Nat → Int32) (ga9 : Nat → Nat → Int32) (se9 sk9 : Nat → Int32), XG mX2_seedsOver _ 0 0 6 [some (.ref 0), some (.ref 36), some (.int (nI x)), some (.int (nI m)), some (.int (nI n)), some (.int (itN (yrF v a lv (S.1 23) (S.1 24) (S.1 31) x m) (nI 0) i)), some (.int (nI i))] [] (pW pv pa gv9 ga9 ov oa se9 tv (va_up ta 22 sk9) tb nv na)) ?_ ?_ 0 (Nat.zero_le _) _ _ se (ta 22)
  · intro gv9 ga9 se9 sk9
    refine XG.blk tX2_seedsOver_ok 4 2 (pc' := 10) (pl' := [some (.ref 0), some (.ref 36), some (.int (nI x)), some (.int (nI m)), some (.int (nI n)), some (.int (itN (yrF v a lv (S.1 23) (S.1 24) (S.1 31) x m) (nI 0) n)), some (.int (nI n))]) (st' := [(.int (nI n)), (.int (nI n))]) (W1 := (pW pv pa gv9 ga9 ov oa se9 tv (va_up ta 22 sk9) tb nv na)) (bs := []) rfl rfl rfl ?_
    refine XG.br eX2_seedsOver_10 (P := (nI n) ≤ (nI n)) (r := []) rfl (tgt := 91) (by decide) (fun h10 => ?_) (fun h10 => ?_)
    · skip
      have g10 : n ≤ n := (nI_leI (a := n) (b := n) (by omega) (by omega)).mp h10
      refine XG.blk tX2_seedsOver_ok 47 1 (pc' := 93) (pl' := [some (.ref 0), some (.ref 36), some (.int (nI x)), some (.int (nI m)), some (.int (nI n)), some (.int (itN (yrF v a lv (S.1 23) (S.1 24) (S.1 31) x m) (nI 0) n)), some (.int (nI n))]) (st' := [(.int (itN (yrF v a lv (S.1 23) (S.1 24) (S.1 31) x m) (nI 0) n))]) (W1 := (pW pv pa gv9 ga9 ov oa se9 tv (va_up ta 22 sk9) tb nv na)) (bs := []) rfl rfl rfl ?_
      refine XS.iret eX2_seedsOver_93 rfl rfl ?_
      exact ⟨_, _, _, _, _, _, _, _, rfl, rfl⟩
    · exfalso
      have g10 : ¬ n ≤ n := (fun z => h10 ((nI_leI (a := n) (b := n) (by omega) (by omega)).mpr z))
      omega
  · intro i hi ihi gv9 ga9 se9 sk9
    refine XG.blk tX2_seedsOver_ok 4 2 (pc' := 10) (pl' := [some (.ref 0), some (.ref 36), some (.int (nI x)), some (.int (nI m)), some (.int (nI n)), some (.int (itN (yrF v a lv (S.1 23) (S.1 24) (S.1 31) x m) (nI 0) i)), some (.int (nI i))]) (st' := [(.int (nI n)), (.int (nI i))]) (W1 := (pW pv pa gv9 ga9 ov oa se9 tv (va_up ta 22 sk9) tb nv na)) (bs := []) rfl rfl rfl ?_
    refine XG.br eX2_seedsOver_10 (P := (nI n) ≤ (nI i)) (r := []) rfl (tgt := 91) (by decide) (fun h10 => ?_) (fun h10 => ?_)
    · exfalso
      have g10 : n ≤ i := (nI_leI (a := n) (b := i) (by omega) (by omega)).mp h10
      omega
    · skip
      have g10 : ¬ n ≤ i := (fun z => h10 ((nI_leI (a := n) (b := i) (by omega) (by omega)).mpr z))
      refine XG.blk tX2_seedsOver_ok 7 3 (pc' := 18) (pl' := [some (.ref 0), some (.ref 36), some (.int (nI x)), some (.int (nI m)), some (.int (nI n)), some (.int (itN (yrF v a lv (S.1 23) (S.1 24) (S.1 31) x m) (nI 0) i)), some (.int (nI i))]) (st' := [(.ref 36), (.ref 7)]) (W1 := (pW pv pa gv9 ga9 ov oa se9 tv (va_up ta 22 sk9) tb nv na)) (bs := []) rfl rfl rfl ?_
      refine XG.callV (ro := [7, 8, 9, 10, 11, 36, 37, 38, 39, 40]) (W1 := (cW gv9 ga9 nv na)) eX2_seedsOver_18 kl_X2_97 (cc_copy (d - 1) gv9 ga9 nv na (by omega)) (px_fitS (by omega)) rfl ⟨rfl, by decide, by decide⟩ rfl rfl (Nat.le_of_ble_eq_true rfl) (fun r9 W9 hp9 hl9 => ?_)
      obtain ⟨gv1, ga1, rfl, hE1, rfl⟩ := hp9
      have hN1 : CNt S (a 54) gv1 ga1 := hN.eq hsl2 hE1
      rw [pt_pcg]
      show XG _ _ _ _ _ _ [] (pW pv pa gv1 ga1 ov oa se9 tv (va_up ta 22 sk9) tb nv na)
      have q1 : (nI x).toNatClampNeg = x := nI_clamp (by omega)
      have q2 : ((ga1 7) x) = (a 54 (18 + x)) := (hN1.2.2.2.2.2.2 x (by omega)).1
      refine XG.blk tX2_seedsOver_ok 11 6 (pc' := 32) (pl' := [some (.ref 0), some (.ref 36), some (.int (nI x)), some (.int (nI m)), some (.int (nI n)), some (.int (itN (yrF v a lv (S.1 23) (S.1 24) (S.1 31) x m) (nI 0) i)), some (.int (nI i))]) (st' := [(.int (-2)), (.int ((ga1 7) (nI x).toNatClampNeg))]) (W1 := (pW pv pa gv1 ga1 ov oa se9 tv (va_up ta 22 sk9) tb nv na)) (bs := [px_vb (nI x) 5]) rfl rfl (by (try simp only [q1, q2]); exact (px_all (px_vbN (by omega) (by decide)) rfl)) ?_
      simp only [q1, q2]
      refine XG.br eX2_seedsOver_32 (P := ¬ (a 54 (18 + x)) = (-2)) (r := []) rfl (tgt := 46) (by decide) (fun h32 => ?_) (fun h32 => ?_)
      · skip
        have hy : yrR a x = a 54 := if_neg h32
        have hN8 : CNt S (yrR a x) gv1 ga1 := by rw [hy]; exact hN1
        have hG8 : GR S H (yrR a x) := by rw [hy]; exact hGR
        have q3 : (tv 6) = (a 37 lv) := hX.sd.1.trans hX.sd.2.2.symm
        refine XG.blk tX2_seedsOver_ok 24 13 (pc' := 69) (pl' := [some (.ref 0), some (.ref 36), some (.int (nI x)), some (.int (nI m)), some (.int (nI n)), some (.int (itN (yrF v a lv (S.1 23) (S.1 24) (S.1 31) x m) (nI 0) i)), some (.int (nI i))]) (st' := [(.int ((tv 6) + (nI i))), (.int (nI 0)), (.int (nI m)), (.int (nI x)), (.ref 7), (.ref 0), (.int (itN (yrF v a lv (S.1 23) (S.1 24) (S.1 31) x m) (nI 0) i))]) (W1 := (pW pv pa gv1 ga1 ov oa se9 tv (va_up ta 22 sk9) tb nv na)) (bs := []) rfl rfl rfl ?_
        simp only [q3]
        refine XG.callV0 eX2_seedsOver_69 kl_X2_159 (cc_hotw_g (d - 1) pv pa gv1 ga1 ov oa se9 tv (va_up ta 22 sk9) tb nv na S lv v a hX hN (va_up (vQ v a lv 0) 56 (a 37 lv + nI i)) x m (by omega) (by omega) (yrR a x) hN8 H hG8 (by omega) (by omega)) (px_fitS (by omega)) rfl rfl rfl (Nat.le_of_ble_eq_true rfl) (fun r9 W9 hp9 hl9 => ?_)
        obtain ⟨gv2, ga2, se2, sk2, rfl, rfl⟩ := hp9
        refine XG.blk tX2_seedsOver_ok 38 1 (pc' := 74) (pl' := [some (.ref 0), some (.ref 36), some (.int (nI x)), some (.int (nI m)), some (.int (nI n)), some (.int (itN (yrF v a lv (S.1 23) (S.1 24) (S.1 31) x m) (nI 0) i)), some (.int (nI i))]) (st' := [(.int (-2)), (.int (hoV (va_up (vQ v a lv 0) 56 (a 37 lv + nI i)) (aQ a) lv (S.1 23) (S.1 24) (S.1 31) (yrR a x) x m)), (.int (itN (yrF v a lv (S.1 23) (S.1 24) (S.1 31) x m) (nI 0) i))]) (W1 := (pW pv pa gv2 ga2 ov oa se2 tv (va_up ta 22 sk2) tb nv na)) (bs := []) rfl rfl rfl ?_
        refine XG.br eX2_seedsOver_74 (P := ¬ (hoV (va_up (vQ v a lv 0) 56 (a 37 lv + nI i)) (aQ a) lv (S.1 23) (S.1 24) (S.1 31) (yrR a x) x m) = (-2)) (r := [(.int (itN (yrF v a lv (S.1 23) (S.1 24) (S.1 31) x m) (nI 0) i))]) rfl (tgt := 81) (by decide) (fun h74 => ?_) (fun h74 => ?_)
        · skip
          have q4 : ((nI i) + (nI 1)) = (nI (i + 1)) := px_eadd rfl rfl
          refine XG.blk tX2_seedsOver_ok 42 4 (pc' := 88) (pl' := [some (.ref 0), some (.ref 36), some (.int (nI x)), some (.int (nI m)), some (.int (nI n)), some (.int ((itN (yrF v a lv (S.1 23) (S.1 24) (S.1 31) x m) (nI 0) i) + (nI 1))), some (.int ((nI i) + (nI 1)))]) (st' := []) (W1 := (pW pv pa gv2 ga2 ov oa se2 tv (va_up ta 22 sk2) tb nv na)) (bs := []) rfl rfl rfl ?_
          simp only [q4]
          refine XG.goto eX2_seedsOver_88 (tgt := 6) (by decide) ?_
          rw [show (itN (yrF v a lv (S.1 23) (S.1 24) (S.1 31) x m) (nI 0) (i + 1)) = (itN (yrF v a lv (S.1 23) (S.1 24) (S.1 31) x m) (nI 0) i) + nI 1 from if_pos ((hoP_over hX.2.1 hX.2.2.1 hx (v0 := (va_up (vQ v a lv 0) 56 (a 37 lv + nI i))) (a := aQ a) (lv := lv) (R := yrR a x) (n := m)).mp ((hoV_is (by omega)).mp h74))] at ihi
          exact ihi _ _ _ _
        · skip
          have h74 := Decidable.not_not.mp h74
          refine XG.blk tX2_seedsOver_ok 40 1 (pc' := 78) (pl' := [some (.ref 0), some (.ref 36), some (.int (nI x)), some (.int (nI m)), some (.int (nI n)), some (.int (itN (yrF v a lv (S.1 23) (S.1 24) (S.1 31) x m) (nI 0) i)), some (.int (nI i))]) (st' := [(.int (nI 0)), (.int (itN (yrF v a lv (S.1 23) (S.1 24) (S.1 31) x m) (nI 0) i))]) (W1 := (pW pv pa gv2 ga2 ov oa se2 tv (va_up ta 22 sk2) tb nv na)) (bs := []) rfl rfl rfl ?_
          refine XG.goto eX2_seedsOver_78 (tgt := 82) (by decide) ?_
          have q5 : ((nI i) + (nI 1)) = (nI (i + 1)) := px_eadd rfl rfl
          refine XG.blk tX2_seedsOver_ok 43 3 (pc' := 88) (pl' := [some (.ref 0), some (.ref 36), some (.int (nI x)), some (.int (nI m)), some (.int (nI n)), some (.int ((itN (yrF v a lv (S.1 23) (S.1 24) (S.1 31) x m) (nI 0) i) + (nI 0))), some (.int ((nI i) + (nI 1)))]) (st' := []) (W1 := (pW pv pa gv2 ga2 ov oa se2 tv (va_up ta 22 sk2) tb nv na)) (bs := []) rfl rfl rfl ?_
          simp only [q5]
          refine XG.goto eX2_seedsOver_88 (tgt := 6) (by decide) ?_
          rw [show (itN (yrF v a lv (S.1 23) (S.1 24) (S.1 31) x m) (nI 0) (i + 1)) = (itN (yrF v a lv (S.1 23) (S.1 24) (S.1 31) x m) (nI 0) i) + nI 0 from (if_neg (fun z => ((hoV_is (by omega)).mpr ((hoP_over hX.2.1 hX.2.2.1 hx (v0 := (va_up (vQ v a lv 0) 56 (a 37 lv + nI i))) (a := aQ a) (lv := lv) (R := yrR a x) (n := m)).mpr z)) h74)).trans (Int32.add_zero _).symm] at ihi
          exact ihi _ _ _ _
      · skip
        have h32 := Decidable.not_not.mp h32
        have q6 : (nI x).toNatClampNeg = x := nI_clamp (by omega)
        refine XG.blk tX2_seedsOver_ok 18 6 (pc' := 46) (pl' := [some (.ref 0), some (.ref 36), some (.int (nI x)), some (.int (nI m)), some (.int (nI n)), some (.int (itN (yrF v a lv (S.1 23) (S.1 24) (S.1 31) x m) (nI 0) i)), some (.int (nI i))]) (st' := []) (W1 := (pW pv pa gv1 (va_up ga1 7 (upd (ga1 7) (nI x).toNatClampNeg (-3))) ov oa se9 tv (va_up ta 22 sk9) tb nv na)) (bs := [px_vb (nI x) 5]) rfl rfl (by (try simp only [q6]); exact (px_all (px_vbN (by omega) (by decide)) rfl)) ?_
        simp only [q6]
        have hN8 := hN1.wh (c := x) (by omega) (-3) hsl2
        have hy : yrR a x = upd (a 54) (18 + x) (-3) := if_pos h32
        rw [← hy] at hN8
        have hG8 : GR S H (yrR a x) := by rw [hy]; exact hGR.up (by omega) (Or.inl rfl)
        have q7 : (tv 6) = (a 37 lv) := hX.sd.1.trans hX.sd.2.2.symm
        refine XG.blk tX2_seedsOver_ok 24 13 (pc' := 69) (pl' := [some (.ref 0), some (.ref 36), some (.int (nI x)), some (.int (nI m)), some (.int (nI n)), some (.int (itN (yrF v a lv (S.1 23) (S.1 24) (S.1 31) x m) (nI 0) i)), some (.int (nI i))]) (st' := [(.int ((tv 6) + (nI i))), (.int (nI 0)), (.int (nI m)), (.int (nI x)), (.ref 7), (.ref 0), (.int (itN (yrF v a lv (S.1 23) (S.1 24) (S.1 31) x m) (nI 0) i))]) (W1 := (pW pv pa gv1 (va_up ga1 7 (upd (ga1 7) x (-3))) ov oa se9 tv (va_up ta 22 sk9) tb nv na)) (bs := []) rfl rfl rfl ?_
        simp only [q7]
        refine XG.callV0 eX2_seedsOver_69 kl_X2_159 (cc_hotw_g (d - 1) pv pa gv1 (va_up ga1 7 (upd (ga1 7) x (-3))) ov oa se9 tv (va_up ta 22 sk9) tb nv na S lv v a hX hN (va_up (vQ v a lv 0) 56 (a 37 lv + nI i)) x m (by omega) (by omega) (yrR a x) hN8 H hG8 (by omega) (by omega)) (px_fitS (by omega)) rfl rfl rfl (Nat.le_of_ble_eq_true rfl) (fun r9 W9 hp9 hl9 => ?_)
        obtain ⟨gv2, ga2, se2, sk2, rfl, rfl⟩ := hp9
        refine XG.blk tX2_seedsOver_ok 38 1 (pc' := 74) (pl' := [some (.ref 0), some (.ref 36), some (.int (nI x)), some (.int (nI m)), some (.int (nI n)), some (.int (itN (yrF v a lv (S.1 23) (S.1 24) (S.1 31) x m) (nI 0) i)), some (.int (nI i))]) (st' := [(.int (-2)), (.int (hoV (va_up (vQ v a lv 0) 56 (a 37 lv + nI i)) (aQ a) lv (S.1 23) (S.1 24) (S.1 31) (yrR a x) x m)), (.int (itN (yrF v a lv (S.1 23) (S.1 24) (S.1 31) x m) (nI 0) i))]) (W1 := (pW pv pa gv2 ga2 ov oa se2 tv (va_up ta 22 sk2) tb nv na)) (bs := []) rfl rfl rfl ?_
        refine XG.br eX2_seedsOver_74 (P := ¬ (hoV (va_up (vQ v a lv 0) 56 (a 37 lv + nI i)) (aQ a) lv (S.1 23) (S.1 24) (S.1 31) (yrR a x) x m) = (-2)) (r := [(.int (itN (yrF v a lv (S.1 23) (S.1 24) (S.1 31) x m) (nI 0) i))]) rfl (tgt := 81) (by decide) (fun h74 => ?_) (fun h74 => ?_)
        · skip
          have q8 : ((nI i) + (nI 1)) = (nI (i + 1)) := px_eadd rfl rfl
          refine XG.blk tX2_seedsOver_ok 42 4 (pc' := 88) (pl' := [some (.ref 0), some (.ref 36), some (.int (nI x)), some (.int (nI m)), some (.int (nI n)), some (.int ((itN (yrF v a lv (S.1 23) (S.1 24) (S.1 31) x m) (nI 0) i) + (nI 1))), some (.int ((nI i) + (nI 1)))]) (st' := []) (W1 := (pW pv pa gv2 ga2 ov oa se2 tv (va_up ta 22 sk2) tb nv na)) (bs := []) rfl rfl rfl ?_
          simp only [q8]
          refine XG.goto eX2_seedsOver_88 (tgt := 6) (by decide) ?_
          rw [show (itN (yrF v a lv (S.1 23) (S.1 24) (S.1 31) x m) (nI 0) (i + 1)) = (itN (yrF v a lv (S.1 23) (S.1 24) (S.1 31) x m) (nI 0) i) + nI 1 from if_pos ((hoP_over hX.2.1 hX.2.2.1 hx (v0 := (va_up (vQ v a lv 0) 56 (a 37 lv + nI i))) (a := aQ a) (lv := lv) (R := yrR a x) (n := m)).mp ((hoV_is (by omega)).mp h74))] at ihi
          exact ihi _ _ _ _
        · skip
          have h74 := Decidable.not_not.mp h74
          refine XG.blk tX2_seedsOver_ok 40 1 (pc' := 78) (pl' := [some (.ref 0), some (.ref 36), some (.int (nI x)), some (.int (nI m)), some (.int (nI n)), some (.int (itN (yrF v a lv (S.1 23) (S.1 24) (S.1 31) x m) (nI 0) i)), some (.int (nI i))]) (st' := [(.int (nI 0)), (.int (itN (yrF v a lv (S.1 23) (S.1 24) (S.1 31) x m) (nI 0) i))]) (W1 := (pW pv pa gv2 ga2 ov oa se2 tv (va_up ta 22 sk2) tb nv na)) (bs := []) rfl rfl rfl ?_
          refine XG.goto eX2_seedsOver_78 (tgt := 82) (by decide) ?_
          have q9 : ((nI i) + (nI 1)) = (nI (i + 1)) := px_eadd rfl rfl
          refine XG.blk tX2_seedsOver_ok 43 3 (pc' := 88) (pl' := [some (.ref 0), some (.ref 36), some (.int (nI x)), some (.int (nI m)), some (.int (nI n)), some (.int ((itN (yrF v a lv (S.1 23) (S.1 24) (S.1 31) x m) (nI 0) i) + (nI 0))), some (.int ((nI i) + (nI 1)))]) (st' := []) (W1 := (pW pv pa gv2 ga2 ov oa se2 tv (va_up ta 22 sk2) tb nv na)) (bs := []) rfl rfl rfl ?_
          simp only [q9]
          refine XG.goto eX2_seedsOver_88 (tgt := 6) (by decide) ?_
          rw [show (itN (yrF v a lv (S.1 23) (S.1 24) (S.1 31) x m) (nI 0) (i + 1)) = (itN (yrF v a lv (S.1 23) (S.1 24) (S.1 31) x m) (nI 0) i) + nI 0 from (if_neg (fun z => ((hoV_is (by omega)).mpr ((hoP_over hX.2.1 hX.2.2.1 hx (v0 := (va_up (vQ v a lv 0) 56 (a 37 lv + nI i))) (a := aQ a) (lv := lv) (R := yrR a x) (n := m)).mpr z)) h74)).trans (Int32.add_zero _).symm] at ihi
          exact ihi _ _ _ _
