/-! the reference: how late one may start -/
theorem itN_keep {f : Nat → (Nat → Int32) → (Nat → Int32)} {k : Nat} : ∀ (n : Nat) (r : Nat → Int32), (∀ i, i < n → ∀ r, f i r k = r k) → itN f r n k = r k := by
  intro n
  induction n with
  | zero => intro r _; rfl
  | succ n ih => intro r h; show f n (itN f r n) k = _; rw [h n (by omega), ih r (fun i hi => h i (by omega))]
theorem cross_keep {a0 : Nat → Nat → Int32} {lv sp sl cr c : Nat} {y : Int32} {r : Nat → Int32} {k : Nat} (hc : c < 5) (h1 : k < 18 ∨ 28 ≤ k) (h2 : k ≠ 31) : crossF a0 lv sp sl cr c y r k = r k := by
  unfold crossF
  split
  · unfold overF; rw [pk_un h2, pk_un (by omega), pk_un (by omega)]
  · split
    · rfl
    · rw [pk_un (by omega)]
theorem hour_keep {v0 : Nat → Int32} {a0 : Nat → Nat → Int32} {lv sp sl cr : Nat} {r : Nat → Int32} {k : Nat} (hcr : cr ≤ 5) (h1 : k < 18 ∨ 28 ≤ k) (h2 : k ≠ 31) : hourF v0 a0 lv sp sl cr r k = sleepF v0 a0 lv sl cr r k := by
  unfold hourF
  rw [itN_keep (sp + 1) _ (fun i _ r => ?_), itN_keep sp _ (fun p _ r => ?_)]
  · simp only [brkF]
    split
    · exact itN_keep cr _ (fun c hc r => by simp only [fallF]; split <;> first | rfl | exact pk_un (by omega))
    · rfl
  · simp only [outF]
    exact itN_keep cr _ (fun c hc r => by simp only [moveF]; split <;> first | rfl | exact cross_keep (by omega) h1 h2)
theorem sleep_28 {v0 : Nat → Int32} {a0 : Nat → Nat → Int32} {lv sl cr : Nat} {r : Nat → Int32} (hsl : sl ≤ 6) : sleepF v0 a0 lv sl cr r 28 = r 28 + nI 1 := by
  unfold sleepF
  rw [pk_un (by decide), pk_us, itN_keep sl r (fun x hx r => ?_)]
  simp only [s2F]
  split
  · exact pk_un (by omega)
  · rw [pk_un (by omega), pk_un (by omega)]
theorem hour_28 {v0 : Nat → Int32} {a0 : Nat → Nat → Int32} {lv sp sl cr : Nat} {r : Nat → Int32} (hsl : sl ≤ 6) (hcr : cr ≤ 5) : hourF v0 a0 lv sp sl cr r 28 = r 28 + nI 1 := by
  rw [hour_keep hcr (by decide) (by decide), sleep_28 hsl]
theorem sn_28 {v0 : Nat → Int32} {a0 : Nat → Nat → Int32} {lv sp sl cr q : Nat} {R : Nat → Int32} (hsl : sl ≤ 6) (hcr : cr ≤ 5) (h : R 28 = nI q) : ∀ i, snR v0 a0 lv sp sl cr R i 28 = nI (q + i) := by
  intro i
  induction i with
  | zero => exact h
  | succ i ih =>
    show hourF v0 a0 lv sp sl cr (snR v0 a0 lv sp sl cr R i) 28 = _
    rw [hour_28 hsl hcr, ih]
    exact nI_add (q + i) 1
/-- the row when, n hours on, x is sent -/
def itR (v : Nat → Int32) (a : Nat → Nat → Int32) (lv sp sl cr x n : Nat) : Nat → Int32 := upd (snR (vQ v a lv (nI 1)) (aQ a) lv sp sl cr (a 54) n) (18 + x) (-3)
def inT (v : Nat → Int32) (a : Nat → Nat → Int32) (lv sp sl cr x n : Nat) : Bool := (findN (snP (vQ v a lv (nI 1)) (aQ a) lv sp sl cr (itR v a lv sp sl cr x n) x) (ixN (a 35 lv) - (ixN (a 54 28) + n)) 0).isSome
set_option maxHeartbeats 400000 in
theorem con_isInTime (d : Nat) (v : Nat → Int32) (a : Nat → Nat → Int32) (b : Nat → Nat → Int64) (lv sp sl cr : Nat) (I : MI v a lv sp sl cr) (hwf : wf3 a lv) (h dw : Nat) (hh : a 54 28 = nI h) (hh2 : h < 1000000) (hdw : a 35 lv = nI dw) (hdw2 : dw ≤ 99) (x n : Nat) (hx : x < cr) (hn : n ≤ 40) (hd : 9 ≤ d) : Con mX9_isInTime d [.ref 0, .int (nI x), .int (nI n)] (mW v a b) (fun r W' => ∃ v' a', W' = mW v' a' b ∧ Qs v v' a a' ∧ r = some (.int (if inT v a lv sp sl cr x n = true then 1 else 0))) := by
  obtain ⟨hlv, hlv2, hsp, hsp1, hsp2, hsl, hsl2, hcr, hcr2⟩ := id I
  refine Con.of (by decide) (Nat.le_of_ble_eq_true rfl) ?_
  refine XG.blk tX9_isInTime_ok 0 1 (pc' := 1) (pl' := [some (.ref 0), some (.int (nI x)), some (.int (nI n))]) (st' := [(.ref 0)]) (W1 := (mW v a b)) (bs := []) rfl rfl rfl ?_
  refine XG.callV0 eX9_isInTime_1 kl_X9_400 (con_copQ (d - 1) v a b lv sp sl cr I) (px_fitS (by omega)) rfl rfl rfl (Nat.le_of_ble_eq_true rfl) (fun r9 W9 hp9 hl9 => ?_)
  obtain ⟨rfl, rfl⟩ := hp9
  refine XG.blk tX9_isInTime_ok 2 5 (pc' := 11) (pl' := [some (.ref 0), some (.int (nI x)), some (.int (nI n))]) (st' := [(.int (nI n)), (.ref 0)]) (W1 := (mW (va_up (vQ v a lv 0) 57 (nI 1)) (aQ a) b)) (bs := [((nI 1) == 0 || (nI 1) == 1)]) rfl rfl (px_all (rfl) rfl) ?_
  refine XG.callV0 eX9_isInTime_11 kl_X9_415 (con_goes (d - 1) (vQ v a lv (nI 1)) (vQ v a lv (nI 1)) (aQ a) (aQ a) b (a 54) _ kQ lv sp sl cr I (wf3_Q hwf) n (by omega) (by omega)) (px_fitS (by omega)) rfl rfl rfl (Nat.le_of_ble_eq_true rfl) (fun r9 W9 hp9 hl9 => ?_)
  obtain ⟨v21, a21, w21, rfl, hK21, rfl⟩ := hp9
  have hlv21 := (hK21.MI (show MI (vQ v a lv (nI 1)) (aQ a) lv sp sl cr from I)).1
  have q1 : ((nI 18) + (nI x)) = (nI (18 + x)) := px_eadd rfl rfl
  have q2 : (a21 55) = (snR (vQ v a lv (nI 1)) (aQ a) lv sp sl cr (a 54) n) := hK21.2.2.1
  have q3 : (nI (18 + x)).toNatClampNeg = (18 + x) := nI_clamp (by omega)
  refine XG.blk tX9_isInTime_ok 8 7 (pc' := 25) (pl' := [some (.ref 0), some (.int (nI x)), some (.int (nI n))]) (st' := []) (W1 := (mW v21 (va_up a21 55 (upd (a21 55) ((nI 18) + (nI x)).toNatClampNeg (-3))) b)) (bs := [px_vb ((nI 18) + (nI x)) 32]) rfl rfl (by (try simp only [q1, q2, q3]); exact (px_all (px_vbN (by omega) (by decide)) rfl)) ?_
  simp only [q1, q2, q3]
  obtain ⟨v0, hv0⟩ : ∃ z, z = vQ v a lv (nI 1) := ⟨_, rfl⟩
  obtain ⟨a0, ha0⟩ : ∃ z, z = aQ a := ⟨_, rfl⟩
  have hK9 : K v0 a0 (itR v a lv sp sl cr x n) w21 v21 (va_up a21 55 (itR v a lv sp sl cr x n)) := by rw [hv0, ha0]; exact K.row hK21 _
  show XG _ _ _ _ 25 _ _ (mW v21 (va_up a21 55 (itR v a lv sp sl cr x n)) b)
  have I0 : MI v0 a0 lv sp sl cr := by rw [hv0, ha0]; exact I
  have hw3 : wf3 a0 lv := by rw [ha0]; exact wf3_Q hwf
  have hdw0 : a0 35 lv = nI dw := by rw [ha0]; exact hdw
  obtain ⟨RS, hRS⟩ : ∃ z, z = findN (snP v0 a0 lv sp sl cr (itR v a lv sp sl cr x n) x) (dw - (h + n)) 0 := ⟨_, rfl⟩
  have eQ : inT v a lv sp sl cr x n = RS.isSome := by unfold inT; rw [hRS, hv0, ha0, hdw, hh, show ixN (nI dw) = dw from nI_clamp (by omega), show ixN (nI h) = h from nI_clamp (by omega)]
  have h28 : ∀ i, (snR v0 a0 lv sp sl cr (itR v a lv sp sl cr x n) i) 28 = nI (h + n + i) := sn_28 hsl2 hcr2 (by unfold itR; rw [pk_un (by omega)]; exact sn_28 hsl2 hcr2 hh n)
  refine px_for (dw - (h + n)) (fun i => ∀ (w v9 : Nat → Int32) (a9 : Nat → Nat → Int32) (hK9 : K v0 a0 (snR v0 a0 lv sp sl cr (itR v a lv sp sl cr x n) i) w v9 a9) (hr : findN (snP v0 a0 lv sp sl cr (itR v a lv sp sl cr x n) x) ((dw - (h + n)) - i) i = RS), XG mX9_isInTime _ 0 0 25 [some (.ref 0), some (.int (nI x)), some (.int (nI n))] [] (mW v9 a9 b)) ?_ ?_ 0 (by omega) _ _ _ hK9 hRS.symm
  · intro w v9 a9 hK9 hr
    have hlv9 := (hK9.MI I0).1
    rw [Nat.sub_self] at hr
    have h28e := h28 (dw - (h + n))
    have q4 : (a9 55) = (snR v0 a0 lv sp sl cr (itR v a lv sp sl cr x n) (dw - (h + n))) := hK9.2.2.1
    have q5 : (nI 28).toNatClampNeg = 28 := nI_clamp (by omega)
    have q6 : ((snR v0 a0 lv sp sl cr (itR v a lv sp sl cr x n) (dw - (h + n))) 28) = (nI (h + n + (dw - (h + n)))) := h28e
    have q7 : (v9 18) = (nI lv) := hlv9
    have q8 : (a9 35) = (a0 35) := hK9.2.1 35 (by decide)
    have q9 : (nI lv).toNatClampNeg = lv := nI_clamp (by omega)
    have q10 : ((a0 35) lv) = (nI dw) := hdw0
    refine XG.blk tX9_isInTime_ok 15 9 (pc' := 41) (pl' := [some (.ref 0), some (.int (nI x)), some (.int (nI n))]) (st' := [(.int ((a9 35) (v9 18).toNatClampNeg)), (.int ((a9 55) (nI 28).toNatClampNeg))]) (W1 := (mW v9 a9 b)) (bs := [px_vb (nI 28) 32, px_vb (v9 18) 2]) rfl rfl (by (try simp only [q4, q5, q6, q7, q8, q9, q10]); exact (px_all (px_vbN (by omega) (by decide)) (px_all (px_vbN (by omega) (by decide)) rfl))) ?_
    simp only [q4, q5, q6, q7, q8, q9, q10]
    refine XG.br eX9_isInTime_41 (P := (nI dw) ≤ (nI (h + n + (dw - (h + n))))) (r := []) rfl (tgt := 64) (by decide) (fun h41 => ?_) (fun h41 => ?_)
    · skip
      have g41 : dw ≤ (h + n + (dw - (h + n))) := (nI_leI (a := dw) (b := (h + n + (dw - (h + n)))) (by omega) (by omega)).mp h41
      refine XG.blk tX9_isInTime_ok 37 1 (pc' := 65) (pl' := [some (.ref 0), some (.int (nI x)), some (.int (nI n))]) (st' := [(.int (nI 0))]) (W1 := (mW v9 a9 b)) (bs := []) rfl rfl rfl ?_
      refine XS.iret eX9_isInTime_65 rfl (by decide) ?_
      exact ⟨_, _, rfl, (Qs.c hv0 ha0).tr (Qs.K hK9), by rw [eQ, ← hr]; rfl⟩
    · exfalso
      have g41 : ¬ dw ≤ (h + n + (dw - (h + n))) := (fun z => h41 ((nI_leI (a := dw) (b := (h + n + (dw - (h + n)))) (by omega) (by omega)).mpr z))
      omega
  · intro i hi ihi w v9 a9 hK9 hr
    have hlv9 := (hK9.MI I0).1
    have h28e := h28 i
    rw [show (dw - (h + n)) - i = ((dw - (h + n)) - (i + 1)) + 1 by omega] at hr
    simp only [findN] at hr
    have q11 : (a9 55) = (snR v0 a0 lv sp sl cr (itR v a lv sp sl cr x n) i) := hK9.2.2.1
    have q12 : (nI 28).toNatClampNeg = 28 := nI_clamp (by omega)
    have q13 : ((snR v0 a0 lv sp sl cr (itR v a lv sp sl cr x n) i) 28) = (nI (h + n + i)) := h28e
    have q14 : (v9 18) = (nI lv) := hlv9
    have q15 : (a9 35) = (a0 35) := hK9.2.1 35 (by decide)
    have q16 : (nI lv).toNatClampNeg = lv := nI_clamp (by omega)
    have q17 : ((a0 35) lv) = (nI dw) := hdw0
    refine XG.blk tX9_isInTime_ok 15 9 (pc' := 41) (pl' := [some (.ref 0), some (.int (nI x)), some (.int (nI n))]) (st' := [(.int ((a9 35) (v9 18).toNatClampNeg)), (.int ((a9 55) (nI 28).toNatClampNeg))]) (W1 := (mW v9 a9 b)) (bs := [px_vb (nI 28) 32, px_vb (v9 18) 2]) rfl rfl (by (try simp only [q11, q12, q13, q14, q15, q16, q17]); exact (px_all (px_vbN (by omega) (by decide)) (px_all (px_vbN (by omega) (by decide)) rfl))) ?_
    simp only [q11, q12, q13, q14, q15, q16, q17]
    refine XG.br eX9_isInTime_41 (P := (nI dw) ≤ (nI (h + n + i))) (r := []) rfl (tgt := 64) (by decide) (fun h41 => ?_) (fun h41 => ?_)
    · exfalso
      have g41 : dw ≤ (h + n + i) := (nI_leI (a := dw) (b := (h + n + i)) (by omega) (by omega)).mp h41
      omega
    · skip
      have g41 : ¬ dw ≤ (h + n + i) := (fun z => h41 ((nI_leI (a := dw) (b := (h + n + i)) (by omega) (by omega)).mpr z))
      refine XG.blk tX9_isInTime_ok 25 1 (pc' := 45) (pl' := [some (.ref 0), some (.int (nI x)), some (.int (nI n))]) (st' := [(.ref 0)]) (W1 := (mW v9 a9 b)) (bs := []) rfl rfl rfl ?_
      refine XG.callV0 eX9_isInTime_45 kl_X9_394 (con_hourGoes (d - 1) v0 v9 a0 a9 b (snR v0 a0 lv sp sl cr (itR v a lv sp sl cr x n) i) _ hK9 lv sp sl cr I0 hw3 (by omega)) (px_fitS (by omega)) rfl rfl rfl (Nat.le_of_ble_eq_true rfl) (fun r9 W9 hp9 hl9 => ?_)
      obtain ⟨v22, a22, w22, rfl, hK22, rfl⟩ := hp9
      have hlv22 := (hK22.MI I0).1
      have q18 : ((nI 18) + (nI x)) = (nI (18 + x)) := px_eadd rfl rfl
      have q19 : (a22 55) = (hourF v0 a0 lv sp sl cr (snR v0 a0 lv sp sl cr (itR v a lv sp sl cr x n) i)) := hK22.2.2.1
      have q20 : (nI (18 + x)).toNatClampNeg = (18 + x) := nI_clamp (by omega)
      refine XG.blk tX9_isInTime_ok 27 7 (pc' := 59) (pl' := [some (.ref 0), some (.int (nI x)), some (.int (nI n))]) (st' := [(.int (nI 9)), (.int ((a22 55) ((nI 18) + (nI x)).toNatClampNeg))]) (W1 := (mW v22 a22 b)) (bs := [px_vb ((nI 18) + (nI x)) 32]) rfl rfl (by (try simp only [q18, q19, q20]); exact (px_all (px_vbN (by omega) (by decide)) rfl)) ?_
      simp only [q18, q19, q20]
      refine XG.br eX9_isInTime_59 (P := ¬ ((hourF v0 a0 lv sp sl cr (snR v0 a0 lv sp sl cr (itR v a lv sp sl cr x n) i)) (18 + x)) = (nI 9)) (r := []) rfl (tgt := 25) (by decide) (fun h59 => ?_) (fun h59 => ?_)
      · skip
        rw [if_neg (show ¬ (snP v0 a0 lv sp sl cr (itR v a lv sp sl cr x n) x) i = true from fun z => h59 (of_decide_eq_true z))] at hr
        exact ihi _ v22 a22 hK22 hr
      · skip
        have h59 := Decidable.not_not.mp h59
        refine XG.blk tX9_isInTime_ok 35 1 (pc' := 63) (pl' := [some (.ref 0), some (.int (nI x)), some (.int (nI n))]) (st' := [(.int (nI 1))]) (W1 := (mW v22 a22 b)) (bs := []) rfl rfl rfl ?_
        refine XS.iret eX9_isInTime_63 rfl (by decide) ?_
        exact ⟨_, _, rfl, (Qs.c hv0 ha0).tr (Qs.K hK22), by rw [if_pos (show (snP v0 a0 lv sp sl cr (itR v a lv sp sl cr x n) x) i = true from decide_eq_true h59)] at hr; rw [eQ, ← hr]; rfl⟩
/-! what an hour does hangs on the text, the seed and whether it is quiet alone -/
def relT : List Nat := [38, 39, 41, 42, 43, 44, 45, 47, 48, 26, 27, 29, 32, 33, 34, 35, 36]
theorem relT_S {a a' : Nat → Nat → Int32} (h : ∀ k ∈ relT, a' k = a k) (r : Nat → Int32) : ∀ k ∈ relS, va_up a' 55 r k = va_up a 55 r k := by
  intro k hk
  unfold va_up
  split
  · rfl
  · rename_i e; exact h k (by revert e; revert k; decide)
theorem bR_cg {a a' : Nat → Nat → Int32} (h : ∀ k ∈ relT, a' k = a k) (lv sl cr : Nat) (r : Nat → Int32) (p : Int32) : bR a' lv sl cr r p = bR a lv sl cr r p := bears_chg (relT_S h r) lv sl cr p
theorem aR_cg {a a' : Nat → Nat → Int32} (h : ∀ k ∈ relT, a' k = a k) (lv sl cr : Nat) (r : Nat → Int32) (k x : Nat) (p lo hi : Int32) : aR a' lv sl cr r k x p lo hi = aR a lv sl cr r k x p lo hi := askV_chg (relT_S h r) lv sl cr k x p lo hi
theorem crossF_cg {a a' : Nat → Nat → Int32} (h : ∀ k ∈ relT, a' k = a k) (lv sp sl cr c : Nat) (y : Int32) (r : Nat → Int32) : crossF a' lv sp sl cr c y r = crossF a lv sp sl cr c y r := by
  unfold crossF
  rw [bR_cg h, h 34 (by decide), h 32 (by decide)]
theorem sleepF_cg {v v' : Nat → Int32} {a a' : Nat → Nat → Int32} (h56 : v' 56 = v 56) (h57 : v' 57 = v 57) (h : ∀ k ∈ relT, a' k = a k) (lv sl cr : Nat) (r : Nat → Int32) : sleepF v' a' lv sl cr r = sleepF v a lv sl cr r := by
  have e1 : ∀ x, wkP v' a' lv sl cr r x = wkP v a lv sl cr r x := fun x => by unfold wkP; rw [h56, h57, aR_cg h, h 35 (by decide)]
  have e2 : wkI v' a' lv sl cr r = wkI v a lv sl cr r := by
    funext x; unfold wkI
    by_cases hw : wkP v a lv sl cr r x
    · rw [if_pos hw, if_pos (by rw [e1]; exact hw)]
    · rw [if_neg hw, if_neg (by rw [e1]; exact hw)]
  have e3 : dpF v' a' lv sl cr r = dpF v a lv sl cr r := by
    funext x; unfold dpF
    by_cases hw : slp r (a 35 lv) x ∧ ¬ wkP v a lv sl cr r x
    · rw [if_pos hw, if_pos (by rw [e1, h 35 (by decide)]; exact hw), aR_cg h]
    · rw [if_neg hw, if_neg (by rw [e1, h 35 (by decide)]; exact hw)]
  unfold sleepF
  rw [e2, e3]
theorem hourF_cg {v v' : Nat → Int32} {a a' : Nat → Nat → Int32} (h56 : v' 56 = v 56) (h57 : v' 57 = v 57) (h : ∀ k ∈ relT, a' k = a k) (lv sp sl cr : Nat) (r : Nat → Int32) : hourF v' a' lv sp sl cr r = hourF v a lv sp sl cr r := by
  have e1 : brkF a' lv sl cr = brkF a lv sl cr := by
    funext p r; simp only [brkF]; rw [bR_cg h, h 32 (by decide)]
  have e2 : outF a' lv sp sl cr r = outF a lv sp sl cr r := by
    funext i r2; simp only [outF]
    refine itN_congr cr (fun c _ y => ?_)
    simp only [moveF]; rw [crossF_cg h]
  unfold hourF
  rw [e1, e2, sleepF_cg h56 h57 h]
theorem snR_0 (v : Nat → Int32) (a : Nat → Nat → Int32) (lv sp sl cr : Nat) (r : Nat → Int32) : snR v a lv sp sl cr r 0 = r := rfl
theorem snR_s (v : Nat → Int32) (a : Nat → Nat → Int32) (lv sp sl cr : Nat) (r : Nat → Int32) (n : Nat) : snR v a lv sp sl cr r (n + 1) = hourF v a lv sp sl cr (snR v a lv sp sl cr r n) := rfl
theorem snR_cg {v v' : Nat → Int32} {a a' : Nat → Nat → Int32} (h56 : v' 56 = v 56) (h57 : v' 57 = v 57) (h : ∀ k ∈ relT, a' k = a k) (lv sp sl cr : Nat) (r : Nat → Int32) : ∀ n, snR v' a' lv sp sl cr r n = snR v a lv sp sl cr r n := by
  intro n
  induction n with
  | zero => rw [snR_0, snR_0]
  | succ n ih => rw [snR_s, snR_s, ih, hourF_cg h56 h57 h]
theorem snP_cg {v v' : Nat → Int32} {a a' : Nat → Nat → Int32} (h56 : v' 56 = v 56) (h57 : v' 57 = v 57) (h : ∀ k ∈ relT, a' k = a k) (lv sp sl cr : Nat) (r : Nat → Int32) (x : Nat) : snP v' a' lv sp sl cr r x = snP v a lv sp sl cr r x := by
  funext i; unfold snP; rw [snR_cg h56 h57 h]
theorem Qs.rel {v v' : Nat → Int32} {a a' : Nat → Nat → Int32} (h : Qs v v' a a') : ∀ k ∈ relT, aQ a' k = aQ a k := by
  intro k hk
  have e : k ≠ 55 := by revert k; decide
  rw [show aQ a' k = a' k from if_neg e, show aQ a k = a k from if_neg e]
  exact h.2 k (by revert k; decide)
theorem Qs.v56 {v v' : Nat → Int32} {a a' : Nat → Nat → Int32} {lv : Nat} {q : Int32} (h : Qs v v' a a') : vQ v' a' lv q 56 = vQ v a lv q 56 := by
  show a' 37 lv = a 37 lv
  rw [h.2 37 (by decide)]
theorem inT_Q {v v' : Nat → Int32} {a a' : Nat → Nat → Int32} (h : Qs v v' a a') (lv sp sl cr x n : Nat) : inT v' a' lv sp sl cr x n = inT v a lv sp sl cr x n := by
  unfold inT itR
  rw [h.2 54 (by decide), h.2 35 (by decide), snP_cg h.v56 rfl h.rel, snR_cg h.v56 rfl h.rel]
theorem Qs.MI {v v' : Nat → Int32} {a a' : Nat → Nat → Int32} {lv sp sl cr : Nat} (h : Qs v v' a a') (I : MI v a lv sp sl cr) : MI v' a' lv sp sl cr := I.chg (h.1 18 (by decide)) (h.2 23 (by decide)) (h.2 24 (by decide)) (h.2 31 (by decide))
theorem Qs.w3 {v v' : Nat → Int32} {a a' : Nat → Nat → Int32} {lv : Nat} (h : Qs v v' a a') (w : wf3 a lv) : wf3 a' lv := fun k hk => wfL_chg (fun j hj => h.2 j (by revert j; decide)) (w k hk)
