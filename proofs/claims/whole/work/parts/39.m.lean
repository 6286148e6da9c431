/-! the reference: an hour. K: the row is r; else nothing has changed but what an hour uses up -/
def relS : List Nat := [38, 39, 41, 42, 43, 44, 45, 47, 48, 26, 27, 29, 32, 33, 35, 36, 55]
theorem rel_law {a a' : Nat → Nat → Int32} (h : ∀ k ∈ relS, a' k = a k) : ∀ k ∈ lawS, a' k = a k := fun k hk => h k (by revert k; decide)
theorem askV_chg {a a' : Nat → Nat → Int32} (h : ∀ k ∈ relS, a' k = a k) (lv sl cr k x : Nat) (p lo hi : Int32) : askV a' lv sl cr k x p lo hi = askV a lv sl cr k x p lo hi := by
  unfold askV
  rw [lawF_chg (rel_law h), h 55 (by decide), h 35 (by decide), h 26 (by decide), h 27 (by decide), h 32 (by decide), h 33 (by decide)]
theorem hN_chg {a a' : Nat → Nat → Int32} (h : ∀ k ∈ relS, a' k = a k) (lv sl cr x : Nat) : hN a' lv sl cr x = hN a lv sl cr x := by
  unfold hN
  rw [askV_chg h, h 55 (by decide), h 35 (by decide)]
theorem itN_congr {α : Type} {f g : Nat → α → α} {x : α} (n : Nat) (h : ∀ i, i < n → ∀ y, f i y = g i y) : itN f x n = itN g x n := by
  induction n with
  | zero => rfl
  | succ n ih => show f n (itN f x n) = g n (itN g x n); rw [ih (fun i hi => h i (by omega)), h n (by omega)]
theorem bears_chg {a a' : Nat → Nat → Int32} (h : ∀ k ∈ relS, a' k = a k) (lv sl cr : Nat) (p : Int32) : bears a' lv sl cr p = bears a lv sl cr p := by
  unfold bears
  rw [h 36 (by decide), h 55 (by decide), h 35 (by decide), h 29 (by decide)]
  refine itN_congr sl (fun i _ y => ?_)
  simp only [brF]
  rw [h 55 (by decide), hN_chg h]
theorem least_chg {a a' : Nat → Nat → Int32} (h : ∀ k ∈ relS, a' k = a k) (lv sp sl cr : Nat) : least a' lv sp sl cr = least a lv sp sl cr := by
  unfold least
  rw [bears_chg h]
  refine itN_congr (sp - 1) (fun i _ y => ?_)
  simp only [leF]
  rw [bears_chg h]
def junkS : List Nat := [51, 52, 55, 58, 59, 60]
def K (v0 : Nat → Int32) (a0 : Nat → Nat → Int32) (r w : Nat → Int32) (v : Nat → Int32) (a : Nat → Nat → Int32) : Prop := chg [53] v0 v ∧ chg junkS a0 a ∧ a 55 = r ∧ a 60 = w
theorem K.up {v0 v : Nat → Int32} {a0 a : Nat → Nat → Int32} {r w : Nat → Int32} (h : K v0 a0 r w v a) {k : Nat} (hk : k ∈ [51, 52, 58, 59]) {f : Nat → Int32} : K v0 a0 r w v (va_up a k f) :=
  ⟨h.1, h.2.1.tr (chg.up (by revert k; decide)), by rw [← h.2.2.1]; exact if_neg (by revert k; decide), by rw [← h.2.2.2]; exact if_neg (by revert k; decide)⟩
theorem K.was {v0 v : Nat → Int32} {a0 a : Nat → Nat → Int32} {r w : Nat → Int32} (h : K v0 a0 r w v a) (w' : Nat → Int32) : K v0 a0 r w' v (va_up a 60 w') := ⟨h.1, h.2.1.tr (chg.up (by decide)), h.2.2.1, rfl⟩
theorem K.row {v0 v : Nat → Int32} {a0 a : Nat → Nat → Int32} {r w : Nat → Int32} (h : K v0 a0 r w v a) (r' : Nat → Int32) : K v0 a0 r' w v (va_up a 55 r') := ⟨h.1, h.2.1.tr (chg.up (by decide)), rfl, h.2.2.2⟩
theorem K.J {v0 v v' : Nat → Int32} {a0 a a' : Nat → Nat → Int32} {r w : Nat → Int32} (h : K v0 a0 r w v a) (j : J v v' a a') : K v0 a0 r w v' a' := ⟨h.1.tr j.1, h.2.1.tr (j.2.mono (by decide)), (j.2 55 (by decide)).trans h.2.2.1, (j.2 60 (by decide)).trans h.2.2.2⟩
theorem K.MI {v0 v : Nat → Int32} {a0 a : Nat → Nat → Int32} {r w : Nat → Int32} {lv sp sl cr : Nat} (h : K v0 a0 r w v a) (I : MI v0 a0 lv sp sl cr) : MI v a lv sp sl cr := I.chg (h.1 18 (by decide)) (h.2.1 23 (by decide)) (h.2.1 24 (by decide)) (h.2.1 31 (by decide))
theorem K.rel {v0 v : Nat → Int32} {a0 a : Nat → Nat → Int32} {r w : Nat → Int32} (h : K v0 a0 r w v a) : ∀ k ∈ relS, a k = va_up a0 55 r k := by
  intro k hk
  by_cases e : k = 55
  · subst e; exact h.2.2.1
  · rw [show va_up a0 55 r k = a0 k from if_neg e]
    exact h.2.1 k (by revert e; revert k; decide)
theorem K.w3 {v0 v : Nat → Int32} {a0 a : Nat → Nat → Int32} {r w : Nat → Int32} {lv : Nat} (h : K v0 a0 r w v a) (w : wf3 a0 lv) : wf3 a lv := fun k hk => wfL_chg (fun j hj => h.2.1 j (by revert j; decide)) (w k hk)
theorem J.rf {v : Nat → Int32} {a : Nat → Nat → Int32} : J v v a a := ⟨chg.rf, chg.rf⟩
/-- what a span bears, and what is told, where the row is r -/
abbrev bR (a0 : Nat → Nat → Int32) (lv sl cr : Nat) (r : Nat → Int32) (p : Int32) : Int32 := bears (va_up a0 55 r) lv sl cr p
abbrev aR (a0 : Nat → Nat → Int32) (lv sl cr : Nat) (r : Nat → Int32) (k x : Nat) (p lo hi : Int32) : Int32 := askV (va_up a0 55 r) lv sl cr k x p lo hi
theorem con_bK (d : Nat) (v0 v : Nat → Int32) (a0 a : Nat → Nat → Int32) (b : Nat → Nat → Int64) (r w : Nat → Int32) (h : K v0 a0 r w v a) (lv sp sl cr : Nat) (I0 : MI v0 a0 lv sp sl cr) (hw3 : wf3 a0 lv) (p : Int32) (hd : 5 ≤ d) : Con mX9_bearsNow d [.ref 0, .int p] (mW v a b) (fun q W' => ∃ v' a', W' = mW v' a' b ∧ J v v' a a' ∧ q = some (.int (bR a0 lv sl cr r p))) := by
  have h1 := con_bearsNow d v v a a b J.rf lv sp sl cr (h.MI I0) (h.w3 hw3) p hd
  rw [bears_chg h.rel] at h1
  exact h1
theorem con_aK (d : Nat) (v0 v : Nat → Int32) (a0 a : Nat → Nat → Int32) (b : Nat → Nat → Int64) (r w : Nat → Int32) (h : K v0 a0 r w v a) (lv sp sl cr : Nat) (I0 : MI v0 a0 lv sp sl cr) (hw3 : wf3 a0 lv) (k x : Nat) (p lo hi : Int32) (hk : k < 3) (hx : x < sl) (hd : 3 ≤ d) : Con mX9_asks d [.ref 0, .int (nI k), .int (nI x), .int p, .int lo, .int hi] (mW v a b) (fun q W' => ∃ v' a', W' = mW v' a' b ∧ J v v' a a' ∧ q = some (.int (aR a0 lv sl cr r k x p lo hi))) := by
  have h1 := con_asks d v v a a b J.rf lv sp sl cr (h.MI I0) k x p lo hi hk hx (h.w3 hw3 k hk) hd
  rw [askV_chg h.rel] at h1
  exact h1
theorem con_lK (d : Nat) (v0 v : Nat → Int32) (a0 a : Nat → Nat → Int32) (b : Nat → Nat → Int64) (r w : Nat → Int32) (h : K v0 a0 r w v a) (lv sp sl cr : Nat) (I0 : MI v0 a0 lv sp sl cr) (p : Int32) : Con mX9_loadOn d [.ref 0, .int p] (mW v a b) (fun q W' => W' = mW v a b ∧ q = some (.int (itN (loadF r (a0 32) lv p) 0 cr))) := by
  have h1 := con_loadOn d v a b p lv sp sl cr (h.MI I0)
  rw [h.2.2.1, h.2.1 32 (by decide)] at h1
  exact h1
theorem con_sK (d : Nat) (v0 v : Nat → Int32) (a0 a : Nat → Nat → Int32) (b : Nat → Nat → Int64) (r w : Nat → Int32) (h : K v0 a0 r w v a) (lv sp sl cr : Nat) (I0 : MI v0 a0 lv sp sl cr) (k : Nat) (hk : k < 6) : Con mX9_isAsleep d [.ref 0, .int (nI k)] (mW v a b) (fun q W' => W' = mW v a b ∧ q = some (.int (if slp r (a0 35 lv) k then 1 else 0))) := by
  have h1 := con_isAsleep d v a b k hk lv sp sl cr (h.MI I0)
  rw [h.2.2.1, h.2.1 35 (by decide)] at h1
  exact h1
theorem con_loK (d : Nat) (v0 v : Nat → Int32) (a0 a : Nat → Nat → Int32) (b : Nat → Nat → Int64) (r w : Nat → Int32) (h : K v0 a0 r w v a) (y : Int32) (hd : 1 ≤ d) : Con mX9_lotOf d [.ref 0, .int y] (mW v a b) (fun q W' => W' = mW v a b ∧ q = some (.int (lotF (v0 56) y))) := by
  have h1 := con_lotOf d v a b y hd
  rw [h.1 56 (by decide)] at h1
  exact h1
def overF (toll : Nat → Int32) (lv c : Nat) (r : Nat → Int32) : Nat → Int32 := upd (upd (upd r (18 + c) (nI 9)) (23 + c) (upd r (18 + c) (nI 9) (23 + c) + nI 1)) 31 (upd (upd r (18 + c) (nI 9)) (23 + c) (upd r (18 + c) (nI 9) (23 + c) + nI 1) 31 + toll (5 * lv + c))
set_option maxHeartbeats 400000 in
theorem con_goesOver (d : Nat) (v0 v9 : Nat → Int32) (a0 a9 : Nat → Nat → Int32) (b : Nat → Nat → Int64) (r w : Nat → Int32) (hK9 : K v0 a0 r w v9 a9) (lv sp sl cr : Nat) (I0 : MI v0 a0 lv sp sl cr) (hw3 : wf3 a0 lv) (c : Nat) (hc : c < cr) (hd : 0 ≤ d) : Con mX9_goesOver d [.ref 0, .int (nI c)] (mW v9 a9 b) (fun q W' => ∃ v' a', W' = mW v' a' b ∧ K v0 a0 (overF (a0 34) lv c r) w v' a' ∧ q = none) := by
  obtain ⟨hlv0, hlv2, hsp, hsp1, hsp2, hsl, hsl2, hcr, hcr2⟩ := id I0
  have hlv9 := (hK9.MI I0).1
  refine Con.of (by decide) (Nat.le_of_ble_eq_true rfl) ?_
  have q1 : ((nI 18) + (nI c)) = (nI (18 + c)) := px_eadd rfl rfl
  have q2 : (a9 55) = r := hK9.2.2.1
  have q3 : (nI (18 + c)).toNatClampNeg = (18 + c) := nI_clamp (by omega)
  have q4 : ((nI 23) + (nI c)) = (nI (23 + c)) := px_eadd rfl rfl
  have q5 : (nI (23 + c)).toNatClampNeg = (23 + c) := nI_clamp (by omega)
  have q6 : (nI 31).toNatClampNeg = 31 := nI_clamp (by omega)
  have q7 : (v9 18) = (nI lv) := hlv9
  have q8 : ((nI 5) * (nI lv)) = (nI (5 * lv)) := px_emul rfl rfl
  have q9 : ((nI (5 * lv)) + (nI c)) = (nI ((5 * lv) + c)) := px_eadd rfl rfl
  have q10 : (a9 34) = (a0 34) := hK9.2.1 34 (by decide)
  have q11 : (nI ((5 * lv) + c)).toNatClampNeg = ((5 * lv) + c) := nI_clamp (by omega)
  refine XG.blk tX9_goesOver_ok 0 33 (pc' := 47) (pl' := [some (.ref 0), some (.int (nI c))]) (st' := []) (W1 := (mW v9 (va_up a9 55 (upd (upd (upd (a9 55) ((nI 18) + (nI c)).toNatClampNeg (nI 9)) ((nI 23) + (nI c)).toNatClampNeg (((upd (a9 55) ((nI 18) + (nI c)).toNatClampNeg (nI 9)) ((nI 23) + (nI c)).toNatClampNeg) + (nI 1))) (nI 31).toNatClampNeg (((upd (upd (a9 55) ((nI 18) + (nI c)).toNatClampNeg (nI 9)) ((nI 23) + (nI c)).toNatClampNeg (((upd (a9 55) ((nI 18) + (nI c)).toNatClampNeg (nI 9)) ((nI 23) + (nI c)).toNatClampNeg) + (nI 1))) (nI 31).toNatClampNeg) + ((a9 34) (((nI 5) * (v9 18)) + (nI c)).toNatClampNeg)))) b)) (bs := [px_vb ((nI 18) + (nI c)) 32, px_vb ((nI 23) + (nI c)) 32, px_vb ((nI 23) + (nI c)) 32, px_vb (nI 31) 32, px_vb (((nI 5) * (v9 18)) + (nI c)) 10, px_vb (nI 31) 32]) rfl rfl (by (try simp only [q1, q2, q3, q4, q5, q6, q7, q8, q9, q10, q11]); exact (px_all (px_vbN (by omega) (by decide)) (px_all (px_vbN (by omega) (by decide)) (px_all (px_vbN (by omega) (by decide)) (px_all (px_vbN (by omega) (by decide)) (px_all (px_vbN (by omega) (by decide)) (px_all (px_vbN (by omega) (by decide)) rfl))))))) ?_
  simp only [q1, q2, q3, q4, q5, q6, q7, q8, q9, q10, q11]
  refine XS.vret eX9_goesOver_47 rfl ?_
  exact ⟨_, _, rfl, (K.row hK9 (upd (upd (upd r (18 + c) (nI 9)) (23 + c) (((upd r (18 + c) (nI 9)) (23 + c)) + (nI 1))) 31 (((upd (upd r (18 + c) (nI 9)) (23 + c) (((upd r (18 + c) (nI 9)) (23 + c)) + (nI 1))) 31) + ((a0 34) ((5 * lv) + c))))), rfl⟩
def crossF (a0 : Nat → Nat → Int32) (lv sp sl cr c : Nat) (y : Int32) (r : Nat → Int32) : Nat → Int32 := if y = nI (sp - 1) then overF (a0 34) lv c r else if bR a0 lv sl cr r (y + nI 1) < itN (loadF r (a0 32) lv (y + nI 1)) 0 cr + a0 32 (5 * lv + c) then r else upd r (18 + c) (y + nI 1)
set_option maxHeartbeats 400000 in
theorem con_crosses (d : Nat) (v0 v9 : Nat → Int32) (a0 a9 : Nat → Nat → Int32) (b : Nat → Nat → Int64) (r w : Nat → Int32) (hK9 : K v0 a0 r w v9 a9) (lv sp sl cr : Nat) (I0 : MI v0 a0 lv sp sl cr) (hw3 : wf3 a0 lv) (c : Nat) (hc : c < cr) (hd : 6 ≤ d) : Con mX9_crosses d [.ref 0, .int (nI c)] (mW v9 a9 b) (fun q W' => ∃ v' a', W' = mW v' a' b ∧ K v0 a0 (crossF a0 lv sp sl cr c (w c) r) w v' a' ∧ q = none) := by
  obtain ⟨hlv0, hlv2, hsp, hsp1, hsp2, hsl, hsl2, hcr, hcr2⟩ := id I0
  have hlv9 := (hK9.MI I0).1
  refine Con.of (by decide) (Nat.le_of_ble_eq_true rfl) ?_
  have q1 : (a9 60) = w := hK9.2.2.2
  have q2 : (nI c).toNatClampNeg = c := nI_clamp (by omega)
  have q3 : (v9 18) = (nI lv) := hlv9
  have q4 : (a9 23) = (a0 23) := hK9.2.1 23 (by decide)
  have q5 : (nI lv).toNatClampNeg = lv := nI_clamp (by omega)
  have q6 : ((a0 23) lv) = (nI sp) := hsp
  have q7 : ((nI sp) - (nI 1)) = (nI (sp - 1)) := px_esub rfl rfl (by omega)
  refine XG.blk tX9_crosses_ok 0 13 (pc' := 19) (pl' := [some (.ref 0), some (.int (nI c)), some (.int ((a9 60) (nI c).toNatClampNeg)), none]) (st' := [(.int (((a9 23) (v9 18).toNatClampNeg) - (nI 1))), (.int ((a9 60) (nI c).toNatClampNeg))]) (W1 := (mW v9 a9 b)) (bs := [px_vb (nI c) 5, px_vb (v9 18) 2]) rfl rfl (by (try simp only [q1, q2, q3, q4, q5, q6, q7]); exact (px_all (px_vbN (by omega) (by decide)) (px_all (px_vbN (by omega) (by decide)) rfl))) ?_
  simp only [q1, q2, q3, q4, q5, q6, q7]
  refine XG.br eX9_crosses_19 (P := ¬ (w c) = (nI (sp - 1))) (r := []) rfl (tgt := 28) (by decide) (fun h19 => ?_) (fun h19 => ?_)
  · skip
    have q8 : (v9 18) = (nI lv) := hlv9
    have q9 : ((nI 5) * (nI lv)) = (nI (5 * lv)) := px_emul rfl rfl
    have q10 : ((nI (5 * lv)) + (nI c)) = (nI ((5 * lv) + c)) := px_eadd rfl rfl
    have q11 : (a9 32) = (a0 32) := hK9.2.1 32 (by decide)
    have q12 : (nI ((5 * lv) + c)).toNatClampNeg = ((5 * lv) + c) := nI_clamp (by omega)
    refine XG.blk tX9_crosses_ok 18 14 (pc' := 46) (pl' := [some (.ref 0), some (.int (nI c)), some (.int (w c)), some (.int ((a9 32) (((nI 5) * (v9 18)) + (nI c)).toNatClampNeg))]) (st' := [(.int ((w c) + (nI 1))), (.ref 0)]) (W1 := (mW v9 a9 b)) (bs := [px_vb (((nI 5) * (v9 18)) + (nI c)) 10]) rfl rfl (by (try simp only [q8, q9, q10, q11, q12]); exact (px_all (px_vbN (by omega) (by decide)) rfl)) ?_
    simp only [q8, q9, q10, q11, q12]
    refine XG.callV0 eX9_crosses_46 kl_X9_354 (con_lK (d - 1) v0 v9 a0 a9 b r _ hK9 lv sp sl cr I0 ((w c) + (nI 1))) (px_fitS (by omega)) rfl rfl rfl (Nat.le_of_ble_eq_true rfl) (fun r9 W9 hp9 hl9 => ?_)
    obtain ⟨rfl, rfl⟩ := hp9
    refine XG.blk tX9_crosses_ok 33 6 (pc' := 55) (pl' := [some (.ref 0), some (.int (nI c)), some (.int (w c)), some (.int ((a0 32) ((5 * lv) + c)))]) (st' := [(.int ((w c) + (nI 1))), (.ref 0), (.int ((itN (loadF r (a0 32) lv ((w c) + (nI 1))) 0 cr) + ((a0 32) ((5 * lv) + c))))]) (W1 := (mW v9 a9 b)) (bs := []) rfl rfl rfl ?_
    refine XG.callV0 eX9_crosses_55 kl_X9_379 (con_bK (d - 1) v0 v9 a0 a9 b r _ hK9 lv sp sl cr I0 hw3 ((w c) + (nI 1)) (by omega)) (px_fitS (by omega)) rfl rfl rfl (Nat.le_of_ble_eq_true rfl) (fun r9 W9 hp9 hl9 => ?_)
    obtain ⟨v21, a21, rfl, hj21, rfl⟩ := hp9
    have hK21 := K.J hK9 hj21
    have hlv21 := (hK21.MI I0).1
    refine XG.br eX9_crosses_58 (P := (bR a0 lv sl cr r ((w c) + (nI 1))) < ((itN (loadF r (a0 32) lv ((w c) + (nI 1))) 0 cr) + ((a0 32) ((5 * lv) + c)))) (r := []) rfl (tgt := 73) (by decide) (fun h58 => ?_) (fun h58 => ?_)
    · skip
      refine XS.vret eX9_crosses_73 rfl ?_
      exact ⟨_, _, rfl, by unfold crossF; rw [if_neg h19, if_pos h58]; exact hK21, rfl⟩
    · skip
      have q13 : ((nI 18) + (nI c)) = (nI (18 + c)) := px_eadd rfl rfl
      have q14 : (a21 55) = r := hK21.2.2.1
      have q15 : (nI (18 + c)).toNatClampNeg = (18 + c) := nI_clamp (by omega)
      refine XG.blk tX9_crosses_ok 41 9 (pc' := 73) (pl' := [some (.ref 0), some (.int (nI c)), some (.int (w c)), some (.int ((a0 32) ((5 * lv) + c)))]) (st' := []) (W1 := (mW v21 (va_up a21 55 (upd (a21 55) ((nI 18) + (nI c)).toNatClampNeg ((w c) + (nI 1)))) b)) (bs := [px_vb ((nI 18) + (nI c)) 32]) rfl rfl (by (try simp only [q13, q14, q15]); exact (px_all (px_vbN (by omega) (by decide)) rfl)) ?_
      simp only [q13, q14, q15]
      refine XS.vret eX9_crosses_73 rfl ?_
      exact ⟨_, _, rfl, by unfold crossF; rw [if_neg h19, if_neg h58]; exact (K.row hK21 (upd r (18 + c) ((w c) + (nI 1)))), rfl⟩
  · skip
    have h19 := Decidable.not_not.mp h19
    refine XG.blk tX9_crosses_ok 14 2 (pc' := 24) (pl' := [some (.ref 0), some (.int (nI c)), some (.int (w c)), none]) (st' := [(.int (nI c)), (.ref 0)]) (W1 := (mW v9 a9 b)) (bs := []) rfl rfl rfl ?_
    refine XG.callV0 eX9_crosses_24 kl_X9_385 (con_goesOver (d - 1) v0 v9 a0 a9 b r _ hK9 lv sp sl cr I0 hw3 c (by omega) (by omega)) (px_fitS (by omega)) rfl rfl rfl (Nat.le_of_ble_eq_true rfl) (fun r9 W9 hp9 hl9 => ?_)
    obtain ⟨v22, a22, rfl, hK22, rfl⟩ := hp9
    have hlv22 := (hK22.MI I0).1
    refine XS.vret eX9_crosses_27 rfl ?_
    exact ⟨_, _, rfl, by unfold crossF; rw [if_pos h19]; exact hK22, rfl⟩
