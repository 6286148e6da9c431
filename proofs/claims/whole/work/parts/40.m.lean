/-! the reference: sleepers sleep on -/
abbrev wkP (v0 : Nat → Int32) (a0 : Nat → Nat → Int32) (lv sl cr : Nat) (r : Nat → Int32) (x : Nat) : Prop := slp r (a0 35 lv) x ∧ v0 57 = 0 ∧ lotF (v0 56) (nI 16 * r 30 + nI x) < aR a0 lv sl cr r 1 x (nI 0) (nI 0) (nI 100)
def wkI (v0 : Nat → Int32) (a0 : Nat → Nat → Int32) (lv sl cr : Nat) (r : Nat → Int32) (x : Nat) : Int32 := if wkP v0 a0 lv sl cr r x then nI 1 else nI 0
def dpF (v0 : Nat → Int32) (a0 : Nat → Nat → Int32) (lv sl cr : Nat) (r : Nat → Int32) (x : Nat) : Int32 := if slp r (a0 35 lv) x ∧ ¬ wkP v0 a0 lv sl cr r x then heldF (r x + aR a0 lv sl cr r 2 x (nI 0) (-9) (nI 9)) (nI 0) (nI 99) else r x
def T1 (dp wk : Nat → Int32) (n : Nat) (a : Nat → Nat → Int32) : Prop := ∀ j, j < n → a 58 j = dp j ∧ a 59 j = wk j
theorem T1.st {dp wk : Nat → Int32} {n : Nat} {a a' : Nat → Nat → Int32} (h : T1 dp wk n a) (h58 : ∀ j, j ≠ n → a' 58 j = a 58 j) (h59 : ∀ j, j ≠ n → a' 59 j = a 59 j) (e58 : a' 58 n = dp n) (e59 : a' 59 n = wk n) : T1 dp wk (n + 1) a' := by
  intro j hj
  by_cases e : j = n
  · subst e; exact ⟨e58, e59⟩
  · obtain ⟨h1, h2⟩ := h j (by omega)
    exact ⟨(h58 j e).trans h1, (h59 j e).trans h2⟩
/-- the row behind the second loop's i-th step -/
def s2F (dp wk : Nat → Int32) : Nat → (Nat → Int32) → (Nat → Int32) := fun x r => if wk x = 0 then upd r x (dp x) else upd (upd r x (dp x)) (6 + x) (nI 1)
def sleepF (v0 : Nat → Int32) (a0 : Nat → Nat → Int32) (lv sl cr : Nat) (r : Nat → Int32) : Nat → Int32 :=
  upd (upd (itN (s2F (dpF v0 a0 lv sl cr r) (wkI v0 a0 lv sl cr r)) r sl) 28 (itN (s2F (dpF v0 a0 lv sl cr r) (wkI v0 a0 lv sl cr r)) r sl 28 + nI 1)) 30 (upd (itN (s2F (dpF v0 a0 lv sl cr r) (wkI v0 a0 lv sl cr r)) r sl) 28 (itN (s2F (dpF v0 a0 lv sl cr r) (wkI v0 a0 lv sl cr r)) r sl 28 + nI 1) 30 + nI 1)
set_option maxHeartbeats 400000 in
theorem con_sleepsOn (d : Nat) (v0 v9 : Nat → Int32) (a0 a9 : Nat → Nat → Int32) (b : Nat → Nat → Int64) (r w : Nat → Int32) (hK9 : K v0 a0 r w v9 a9) (lv sp sl cr : Nat) (I0 : MI v0 a0 lv sp sl cr) (hw3 : wf3 a0 lv) (hd : 4 ≤ d) : Con mX9_sleepsOn d [.ref 0] (mW v9 a9 b) (fun q W' => ∃ v' a', W' = mW v' a' b ∧ K v0 a0 (sleepF v0 a0 lv sl cr r) w v' a' ∧ q = none) := by
  obtain ⟨hlv0, hlv2, hsp, hsp1, hsp2, hsl, hsl2, hcr, hcr2⟩ := id I0
  have hlv9 := (hK9.MI I0).1
  refine Con.of (by decide) (Nat.le_of_ble_eq_true rfl) ?_
  refine XG.blk tX9_sleepsOn_ok 0 2 (pc' := 2) (pl' := [some (.ref 0), some (.int (nI 0))]) (st' := []) (W1 := (mW v9 a9 b)) (bs := []) rfl rfl rfl ?_
  refine px_for sl (fun i => ∀ (v9 : Nat → Int32) (a9 : Nat → Nat → Int32) (hK9 : K v0 a0 r w v9 a9) (hT : T1 (dpF v0 a0 lv sl cr r) (wkI v0 a0 lv sl cr r) i a9), XG mX9_sleepsOn _ 0 0 2 [some (.ref 0), some (.int (nI i))] [] (mW v9 a9 b)) ?_ ?_ 0 (by omega) v9 a9 hK9 (fun j hj => absurd hj (Nat.not_lt_zero j))
  · intro v9 a9 hK9 hT
    have hlv9 := (hK9.MI I0).1
    have q1 : (v9 18) = (nI lv) := hlv9
    have q2 : (a9 24) = (a0 24) := hK9.2.1 24 (by decide)
    have q3 : (nI lv).toNatClampNeg = lv := nI_clamp (by omega)
    have q4 : ((a0 24) lv) = (nI sl) := hsl
    refine XG.blk tX9_sleepsOn_ok 2 6 (pc' := 12) (pl' := [some (.ref 0), some (.int (nI sl))]) (st' := [(.int ((a9 24) (v9 18).toNatClampNeg)), (.int (nI sl))]) (W1 := (mW v9 a9 b)) (bs := [px_vb (v9 18) 2]) rfl rfl (by (try simp only [q1, q2, q3, q4]); exact (px_all (px_vbN (by omega) (by decide)) rfl)) ?_
    simp only [q1, q2, q3, q4]
    refine XG.br eX9_sleepsOn_12 (P := (nI sl) ≤ (nI sl)) (r := []) rfl (tgt := 137) (by decide) (fun h12 => ?_) (fun h12 => ?_)
    · skip
      have g12 : sl ≤ sl := (nI_leI (a := sl) (b := sl) (by omega) (by omega)).mp h12
      refine XG.blk tX9_sleepsOn_ok 81 2 (pc' := 139) (pl' := [some (.ref 0), some (.int (nI 0))]) (st' := []) (W1 := (mW v9 a9 b)) (bs := []) rfl rfl rfl ?_
      clear hlv9
      refine px_for sl (fun j => ∀ (v9 : Nat → Int32) (a9 : Nat → Nat → Int32) (hK9 : K v0 a0 (itN (s2F (dpF v0 a0 lv sl cr r) (wkI v0 a0 lv sl cr r)) r j) w v9 a9) (hT : T1 (dpF v0 a0 lv sl cr r) (wkI v0 a0 lv sl cr r) sl a9), XG mX9_sleepsOn _ 0 0 139 [some (.ref 0), some (.int (nI j))] [] (mW v9 a9 b)) ?_ ?_ 0 (by omega) v9 a9 hK9 hT
      · clear hT hK9
        intro v9 a9 hK9 hT
        have hlv9 := (hK9.MI I0).1
        have q5 : (v9 18) = (nI lv) := hlv9
        have q6 : (a9 24) = (a0 24) := hK9.2.1 24 (by decide)
        have q7 : (nI lv).toNatClampNeg = lv := nI_clamp (by omega)
        have q8 : ((a0 24) lv) = (nI sl) := hsl
        refine XG.blk tX9_sleepsOn_ok 83 6 (pc' := 149) (pl' := [some (.ref 0), some (.int (nI sl))]) (st' := [(.int ((a9 24) (v9 18).toNatClampNeg)), (.int (nI sl))]) (W1 := (mW v9 a9 b)) (bs := [px_vb (v9 18) 2]) rfl rfl (by (try simp only [q5, q6, q7, q8]); exact (px_all (px_vbN (by omega) (by decide)) rfl)) ?_
        simp only [q5, q6, q7, q8]
        refine XG.br eX9_sleepsOn_149 (P := (nI sl) ≤ (nI sl)) (r := []) rfl (tgt := 189) (by decide) (fun h149 => ?_) (fun h149 => ?_)
        · skip
          have g149 : sl ≤ sl := (nI_leI (a := sl) (b := sl) (by omega) (by omega)).mp h149
          have q9 : (a9 55) = (itN (s2F (dpF v0 a0 lv sl cr r) (wkI v0 a0 lv sl cr r)) r sl) := hK9.2.2.1
          have q10 : (nI 28).toNatClampNeg = 28 := nI_clamp (by omega)
          have q11 : (nI 30).toNatClampNeg = 30 := nI_clamp (by omega)
          refine XG.blk tX9_sleepsOn_ok 112 16 (pc' := 211) (pl' := [some (.ref 0), some (.int (nI sl))]) (st' := []) (W1 := (mW v9 (va_up a9 55 (upd (upd (a9 55) (nI 28).toNatClampNeg (((a9 55) (nI 28).toNatClampNeg) + (nI 1))) (nI 30).toNatClampNeg (((upd (a9 55) (nI 28).toNatClampNeg (((a9 55) (nI 28).toNatClampNeg) + (nI 1))) (nI 30).toNatClampNeg) + (nI 1)))) b)) (bs := [px_vb (nI 28) 32, px_vb (nI 28) 32, px_vb (nI 30) 32, px_vb (nI 30) 32]) rfl rfl (by (try simp only [q9, q10, q11]); exact (px_all (px_vbN (by omega) (by decide)) (px_all (px_vbN (by omega) (by decide)) (px_all (px_vbN (by omega) (by decide)) (px_all (px_vbN (by omega) (by decide)) rfl))))) ?_
          simp only [q9, q10, q11]
          refine XS.vret eX9_sleepsOn_211 rfl ?_
          exact ⟨_, _, rfl, (K.row hK9 (upd (upd (itN (s2F (dpF v0 a0 lv sl cr r) (wkI v0 a0 lv sl cr r)) r sl) 28 (((itN (s2F (dpF v0 a0 lv sl cr r) (wkI v0 a0 lv sl cr r)) r sl) 28) + (nI 1))) 30 (((upd (itN (s2F (dpF v0 a0 lv sl cr r) (wkI v0 a0 lv sl cr r)) r sl) 28 (((itN (s2F (dpF v0 a0 lv sl cr r) (wkI v0 a0 lv sl cr r)) r sl) 28) + (nI 1))) 30) + (nI 1)))), rfl⟩
        · exfalso
          have g149 : ¬ sl ≤ sl := (fun z => h149 ((nI_leI (a := sl) (b := sl) (by omega) (by omega)).mpr z))
          omega
      · clear hT hK9
        intro j hj ihj v9 a9 hK9 hT
        have hlv9 := (hK9.MI I0).1
        obtain ⟨h58j, h59j⟩ := hT j hj
        have q12 : (v9 18) = (nI lv) := hlv9
        have q13 : (a9 24) = (a0 24) := hK9.2.1 24 (by decide)
        have q14 : (nI lv).toNatClampNeg = lv := nI_clamp (by omega)
        have q15 : ((a0 24) lv) = (nI sl) := hsl
        refine XG.blk tX9_sleepsOn_ok 83 6 (pc' := 149) (pl' := [some (.ref 0), some (.int (nI j))]) (st' := [(.int ((a9 24) (v9 18).toNatClampNeg)), (.int (nI j))]) (W1 := (mW v9 a9 b)) (bs := [px_vb (v9 18) 2]) rfl rfl (by (try simp only [q12, q13, q14, q15]); exact (px_all (px_vbN (by omega) (by decide)) rfl)) ?_
        simp only [q12, q13, q14, q15]
        refine XG.br eX9_sleepsOn_149 (P := (nI sl) ≤ (nI j)) (r := []) rfl (tgt := 189) (by decide) (fun h149 => ?_) (fun h149 => ?_)
        · exfalso
          have g149 : sl ≤ j := (nI_leI (a := sl) (b := j) (by omega) (by omega)).mp h149
          omega
        · skip
          have g149 : ¬ sl ≤ j := (fun z => h149 ((nI_leI (a := sl) (b := j) (by omega) (by omega)).mpr z))
          have q16 : (nI j).toNatClampNeg = j := nI_clamp (by omega)
          have q17 : ((a9 58) j) = (dpF v0 a0 lv sl cr r j) := h58j
          have q18 : (a9 55) = (itN (s2F (dpF v0 a0 lv sl cr r) (wkI v0 a0 lv sl cr r)) r j) := hK9.2.2.1
          have q19 : ((a9 59) j) = (wkI v0 a0 lv sl cr r j) := h59j
          refine XG.blk tX9_sleepsOn_ok 90 12 (pc' := 170) (pl' := [some (.ref 0), some (.int (nI j))]) (st' := [(.int ((a9 59) (nI j).toNatClampNeg))]) (W1 := (mW v9 (va_up a9 55 (upd (a9 55) (nI j).toNatClampNeg ((a9 58) (nI j).toNatClampNeg))) b)) (bs := [px_vb (nI j) 6, px_vb (nI j) 32, px_vb (nI j) 6]) rfl rfl (by (try simp only [q16, q17, q18, q19]); exact (px_all (px_vbN (by omega) (by decide)) (px_all (px_vbN (by omega) (by decide)) (px_all (px_vbN (by omega) (by decide)) rfl)))) ?_
          simp only [q16, q17, q18, q19]
          refine XG.br eX9_sleepsOn_170 (P := (wkI v0 a0 lv sl cr r j) = 0) (r := []) rfl (tgt := 183) (by decide) (fun h170 => ?_) (fun h170 => ?_)
          · skip
            have q20 : ((nI j) + (nI 1)) = (nI (j + 1)) := px_eadd rfl rfl
            refine XG.blk tX9_sleepsOn_ok 110 1 (pc' := 186) (pl' := [some (.ref 0), some (.int ((nI j) + (nI 1)))]) (st' := []) (W1 := (mW v9 (va_up a9 55 (upd (itN (s2F (dpF v0 a0 lv sl cr r) (wkI v0 a0 lv sl cr r)) r j) j (dpF v0 a0 lv sl cr r j))) b)) (bs := []) rfl rfl rfl ?_
            simp only [q20]
            refine XG.goto eX9_sleepsOn_186 (tgt := 139) (by decide) ?_
            rw [show (itN (s2F (dpF v0 a0 lv sl cr r) (wkI v0 a0 lv sl cr r)) r (j + 1)) = (upd (itN (s2F (dpF v0 a0 lv sl cr r) (wkI v0 a0 lv sl cr r)) r j) j (dpF v0 a0 lv sl cr r j)) from if_pos h170] at ihj
            exact ihj v9 (va_up a9 55 (upd (itN (s2F (dpF v0 a0 lv sl cr r) (wkI v0 a0 lv sl cr r)) r j) j (dpF v0 a0 lv sl cr r j))) (K.row hK9 (upd (itN (s2F (dpF v0 a0 lv sl cr r) (wkI v0 a0 lv sl cr r)) r j) j (dpF v0 a0 lv sl cr r j))) hT
          · skip
            have q21 : ((nI 6) + (nI j)) = (nI (6 + j)) := px_eadd rfl rfl
            have q22 : (nI (6 + j)).toNatClampNeg = (6 + j) := nI_clamp (by omega)
            have q23 : ((nI j) + (nI 1)) = (nI (j + 1)) := px_eadd rfl rfl
            refine XG.blk tX9_sleepsOn_ok 103 8 (pc' := 186) (pl' := [some (.ref 0), some (.int ((nI j) + (nI 1)))]) (st' := []) (W1 := (mW v9 (va_up a9 55 (upd (upd (itN (s2F (dpF v0 a0 lv sl cr r) (wkI v0 a0 lv sl cr r)) r j) j (dpF v0 a0 lv sl cr r j)) ((nI 6) + (nI j)).toNatClampNeg (nI 1))) b)) (bs := [px_vb ((nI 6) + (nI j)) 32]) rfl rfl (by (try simp only [q21, q22, q23]); exact (px_all (px_vbN (by omega) (by decide)) rfl)) ?_
            simp only [q21, q22, q23]
            refine XG.goto eX9_sleepsOn_186 (tgt := 139) (by decide) ?_
            rw [show (itN (s2F (dpF v0 a0 lv sl cr r) (wkI v0 a0 lv sl cr r)) r (j + 1)) = (upd (upd (itN (s2F (dpF v0 a0 lv sl cr r) (wkI v0 a0 lv sl cr r)) r j) j (dpF v0 a0 lv sl cr r j)) (6 + j) (nI 1)) from if_neg h170] at ihj
            exact ihj v9 (va_up a9 55 (upd (upd (itN (s2F (dpF v0 a0 lv sl cr r) (wkI v0 a0 lv sl cr r)) r j) j (dpF v0 a0 lv sl cr r j)) (6 + j) (nI 1))) (K.row hK9 (upd (upd (itN (s2F (dpF v0 a0 lv sl cr r) (wkI v0 a0 lv sl cr r)) r j) j (dpF v0 a0 lv sl cr r j)) (6 + j) (nI 1))) hT
    · exfalso
      have g12 : ¬ sl ≤ sl := (fun z => h12 ((nI_leI (a := sl) (b := sl) (by omega) (by omega)).mpr z))
      omega
  · intro i hi ihi v9 a9 hK9 hT
    have hlv9 := (hK9.MI I0).1
    have q24 : (v9 18) = (nI lv) := hlv9
    have q25 : (a9 24) = (a0 24) := hK9.2.1 24 (by decide)
    have q26 : (nI lv).toNatClampNeg = lv := nI_clamp (by omega)
    have q27 : ((a0 24) lv) = (nI sl) := hsl
    refine XG.blk tX9_sleepsOn_ok 2 6 (pc' := 12) (pl' := [some (.ref 0), some (.int (nI i))]) (st' := [(.int ((a9 24) (v9 18).toNatClampNeg)), (.int (nI i))]) (W1 := (mW v9 a9 b)) (bs := [px_vb (v9 18) 2]) rfl rfl (by (try simp only [q24, q25, q26, q27]); exact (px_all (px_vbN (by omega) (by decide)) rfl)) ?_
    simp only [q24, q25, q26, q27]
    refine XG.br eX9_sleepsOn_12 (P := (nI sl) ≤ (nI i)) (r := []) rfl (tgt := 137) (by decide) (fun h12 => ?_) (fun h12 => ?_)
    · exfalso
      have g12 : sl ≤ i := (nI_leI (a := sl) (b := i) (by omega) (by omega)).mp h12
      omega
    · skip
      have g12 : ¬ sl ≤ i := (fun z => h12 ((nI_leI (a := sl) (b := i) (by omega) (by omega)).mpr z))
      have q28 : (a9 55) = r := hK9.2.2.1
      have q29 : (nI i).toNatClampNeg = i := nI_clamp (by omega)
      have q30 : (vp_nar .boolean (nI 0)) = (nI 0) := by decide
      refine XG.blk tX9_sleepsOn_ok 9 15 (pc' := 36) (pl' := [some (.ref 0), some (.int (nI i))]) (st' := [(.int (nI i)), (.ref 0)]) (W1 := (mW v9 (va_up (va_up a9 58 (upd (a9 58) (nI i).toNatClampNeg ((a9 55) (nI i).toNatClampNeg))) 59 (upd (a9 59) (nI i).toNatClampNeg (vp_nar .boolean (nI 0)))) b)) (bs := [px_vb (nI i) 32, px_vb (nI i) 6, px_vb (nI i) 6]) rfl rfl (by (try simp only [q28, q29, q30]); exact (px_all (px_vbN (by omega) (by decide)) (px_all (px_vbN (by omega) (by decide)) (px_all (px_vbN (by omega) (by decide)) rfl)))) ?_
      simp only [q28, q29, q30]
      refine XG.callV0 eX9_sleepsOn_36 kl_X9_348 (con_sK (d - 1) v0 v9 a0 (va_up (va_up a9 58 (upd (a9 58) i (r i))) 59 (upd (a9 59) i (nI 0))) b r _ (K.up (K.up hK9 (by decide)) (by decide)) lv sp sl cr I0 i (by omega)) (px_fitS (by omega)) rfl rfl rfl (Nat.le_of_ble_eq_true rfl) (fun r9 W9 hp9 hl9 => ?_)
      obtain ⟨rfl, rfl⟩ := hp9
      refine XG.br eX9_sleepsOn_39 (P := ¬ (if slp r (a0 35 lv) i then 1 else 0) = 0) (r := []) rfl (tgt := 45) (by decide) (fun h39 => ?_) (fun h39 => ?_)
      · skip
        have q31 : (v9 57) = (v0 57) := hK9.1 57 (by decide)
        refine XG.blk tX9_sleepsOn_ok 27 5 (pc' := 54) (pl' := [some (.ref 0), some (.int (nI i))]) (st' := [(.int (v9 57)), (.int (nI i)), (.ref 40)]) (W1 := (mW v9 (va_up (va_up a9 58 (upd (a9 58) i (r i))) 59 (upd (a9 59) i (nI 0))) b)) (bs := []) rfl rfl rfl ?_
        simp only [q31]
        refine XG.br eX9_sleepsOn_54 (P := ¬ (v0 57) = 0) (r := [(.int (nI i)), (.ref 40)]) rfl (tgt := 90) (by decide) (fun h54 => ?_) (fun h54 => ?_)
        · skip
          have q32 : (nI i).toNatClampNeg = i := nI_clamp (by omega)
          have q33 : (vp_nar .boolean (nI 0)) = (nI 0) := by decide
          have q34 : ((upd (upd (a9 59) i (nI 0)) i (nI 0)) i) = (nI 0) := pk_us
          refine XG.blk tX9_sleepsOn_ok 53 6 (pc' := 98) (pl' := [some (.ref 0), some (.int (nI i))]) (st' := [(.int ((upd (upd (a9 59) i (nI 0)) (nI i).toNatClampNeg (vp_nar .boolean (nI 0))) (nI i).toNatClampNeg))]) (W1 := (mW v9 (va_up (va_up a9 58 (upd (a9 58) i (r i))) 59 (upd (upd (a9 59) i (nI 0)) (nI i).toNatClampNeg (vp_nar .boolean (nI 0)))) b)) (bs := [px_vb (nI i) 6, px_vb (nI i) 6]) rfl rfl (by (try simp only [q32, q33, q34]); exact (px_all (px_vbN (by omega) (by decide)) (px_all (px_vbN (by omega) (by decide)) rfl))) ?_
          simp only [q32, q33, q34]
          refine XG.br eX9_sleepsOn_98 (P := ¬ (nI 0) = 0) (r := []) rfl (tgt := 131) (by decide) (fun h98 => ?_) (fun h98 => ?_)
          · exfalso
            have g98 : ¬ 0 = 0 := (fun z => h98 ((nI_eq (a := 0) (b := 0) (by omega) (by omega)).mpr z))
            omega
          · skip
            have h98 := Decidable.not_not.mp h98
            have g98 : 0 = 0 := (nI_eq (a := 0) (b := 0) (by omega) (by omega)).mp h98
            have q35 : (a9 55) = r := hK9.2.2.1
            have q36 : (nI i).toNatClampNeg = i := nI_clamp (by omega)
            refine XG.blk tX9_sleepsOn_ok 60 13 (pc' := 120) (pl' := [some (.ref 0), some (.int (nI i))]) (st' := [(.int (nI 9)), (.int (-9)), (.int (nI 0)), (.int (nI i)), (.int (nI 2)), (.ref 0), (.int ((a9 55) (nI i).toNatClampNeg)), (.int (nI i)), (.ref 39)]) (W1 := (mW v9 (va_up (va_up a9 58 (upd (a9 58) i (r i))) 59 (upd (upd (a9 59) i (nI 0)) i (nI 0))) b)) (bs := [px_vb (nI i) 32]) rfl rfl (by (try simp only [q35, q36]); exact (px_all (px_vbN (by omega) (by decide)) rfl)) ?_
            simp only [q35, q36]
            refine XG.callV0 eX9_sleepsOn_120 kl_X9_369 (con_aK (d - 1) v0 v9 a0 (va_up (va_up a9 58 (upd (a9 58) i (r i))) 59 (upd (upd (a9 59) i (nI 0)) i (nI 0))) b r _ (K.up (K.up hK9 (by decide)) (by decide)) lv sp sl cr I0 hw3 2 i (nI 0) (-9) (nI 9) (by omega) (by omega) (by omega)) (px_fitS (by omega)) rfl rfl rfl (Nat.le_of_ble_eq_true rfl) (fun r9 W9 hp9 hl9 => ?_)
            obtain ⟨v21, a21, rfl, hj21, rfl⟩ := hp9
            have hK21 := K.J (K.up (K.up hK9 (by decide)) (by decide)) hj21
            have hlv21 := (hK21.MI I0).1
            refine XG.blk tX9_sleepsOn_ok 74 3 (pc' := 127) (pl' := [some (.ref 0), some (.int (nI i))]) (st' := [(.int (nI 99)), (.int (nI 0)), (.int ((r i) + (aR a0 lv sl cr r 2 i (nI 0) (-9) (nI 9)))), (.int (nI i)), (.ref 39)]) (W1 := (mW v21 a21 b)) (bs := []) rfl rfl rfl ?_
            refine XG.callSp (r := some (.int (heldF ((r i) + (aR a0 lv sl cr r 2 i (nI 0) (-9) (nI 9))) (nI 0) (nI 99)))) eX9_sleepsOn_127 kl_X9_363 (con_held (d - 1) ((r i) + (aR a0 lv sl cr r 2 i (nI 0) (-9) (nI 9))) (nI 0) (nI 99)) (px_fitS (by omega)) rfl rfl rfl rfl (Nat.le_of_ble_eq_true rfl) ?_
            have q37 : (a21 58) = (upd (a9 58) i (r i)) := hj21.2 58 (by decide)
            have q38 : (nI i).toNatClampNeg = i := nI_clamp (by omega)
            have q39 : ((nI i) + (nI 1)) = (nI (i + 1)) := px_eadd rfl rfl
            refine XG.blk tX9_sleepsOn_ok 78 2 (pc' := 134) (pl' := [some (.ref 0), some (.int ((nI i) + (nI 1)))]) (st' := []) (W1 := (mW v21 (va_up a21 58 (upd (a21 58) (nI i).toNatClampNeg (heldF ((r i) + (aR a0 lv sl cr r 2 i (nI 0) (-9) (nI 9))) (nI 0) (nI 99)))) b)) (bs := [px_vb (nI i) 6]) rfl rfl (by (try simp only [q37, q38, q39]); exact (px_all (px_vbN (by omega) (by decide)) rfl)) ?_
            simp only [q37, q38, q39]
            refine XG.goto eX9_sleepsOn_134 (tgt := 2) (by decide) ?_
            exact ihi v21 (va_up a21 58 (upd (upd (a9 58) i (r i)) i (heldF ((r i) + (aR a0 lv sl cr r 2 i (nI 0) (-9) (nI 9))) (nI 0) (nI 99)))) (K.up hK21 (by decide)) (hT.st (fun j hj => by show (upd (upd (a9 58) i (r i)) i (heldF ((r i) + (aR a0 lv sl cr r 2 i (nI 0) (-9) (nI 9))) (nI 0) (nI 99))) j = a9 58 j; simp only [upd, if_neg hj]) (fun j hj => by show a21 59 j = a9 59 j; rw [show a21 59 = (upd (upd (a9 59) i (nI 0)) i (nI 0)) from hj21.2 59 (by decide)]; simp only [upd, if_neg hj]) (by show (upd (upd (a9 58) i (r i)) i (heldF ((r i) + (aR a0 lv sl cr r 2 i (nI 0) (-9) (nI 9))) (nI 0) (nI 99))) i = dpF v0 a0 lv sl cr r i; rw [pk_us]; unfold dpF; rw [if_pos ⟨(Decidable.not_not.mp (fun z => h39 (one_ne.mpr z))), fun hc => h54 hc.2.1⟩]) (by show a21 59 i = wkI v0 a0 lv sl cr r i; rw [show a21 59 = (upd (upd (a9 59) i (nI 0)) i (nI 0)) from hj21.2 59 (by decide)]; rw [pk_us]; unfold wkI; rw [if_neg (fun hc => h54 hc.2.1)]))
        · skip
          have h54 := Decidable.not_not.mp h54
          have q40 : (a9 55) = r := hK9.2.2.1
          have q41 : (nI 30).toNatClampNeg = 30 := nI_clamp (by omega)
          refine XG.blk tX9_sleepsOn_ok 33 9 (pc' := 70) (pl' := [some (.ref 0), some (.int (nI i))]) (st' := [(.int (((nI 16) * ((a9 55) (nI 30).toNatClampNeg)) + (nI i))), (.ref 0), (.int (nI i)), (.ref 40)]) (W1 := (mW v9 (va_up (va_up a9 58 (upd (a9 58) i (r i))) 59 (upd (a9 59) i (nI 0))) b)) (bs := [px_vb (nI 30) 32]) rfl rfl (by (try simp only [q40, q41]); exact (px_all (px_vbN (by omega) (by decide)) rfl)) ?_
          simp only [q40, q41]
          refine XG.callV0 eX9_sleepsOn_70 kl_X9_382 (con_loK (d - 1) v0 v9 a0 (va_up (va_up a9 58 (upd (a9 58) i (r i))) 59 (upd (a9 59) i (nI 0))) b r _ (K.up (K.up hK9 (by decide)) (by decide)) (((nI 16) * (r 30)) + (nI i)) (by omega)) (px_fitS (by omega)) rfl rfl rfl (Nat.le_of_ble_eq_true rfl) (fun r9 W9 hp9 hl9 => ?_)
          obtain ⟨rfl, rfl⟩ := hp9
          refine XG.blk tX9_sleepsOn_ok 43 6 (pc' := 80) (pl' := [some (.ref 0), some (.int (nI i))]) (st' := [(.int (nI 100)), (.int (nI 0)), (.int (nI 0)), (.int (nI i)), (.int (nI 1)), (.ref 0), (.int (lotF (v0 56) (((nI 16) * (r 30)) + (nI i)))), (.int (nI i)), (.ref 40)]) (W1 := (mW v9 (va_up (va_up a9 58 (upd (a9 58) i (r i))) 59 (upd (a9 59) i (nI 0))) b)) (bs := []) rfl rfl rfl ?_
          refine XG.callV0 eX9_sleepsOn_80 kl_X9_369 (con_aK (d - 1) v0 v9 a0 (va_up (va_up a9 58 (upd (a9 58) i (r i))) 59 (upd (a9 59) i (nI 0))) b r _ (K.up (K.up hK9 (by decide)) (by decide)) lv sp sl cr I0 hw3 1 i (nI 0) (nI 0) (nI 100) (by omega) (by omega) (by omega)) (px_fitS (by omega)) rfl rfl rfl (Nat.le_of_ble_eq_true rfl) (fun r9 W9 hp9 hl9 => ?_)
          obtain ⟨v22, a22, rfl, hj22, rfl⟩ := hp9
          have hK22 := K.J (K.up (K.up hK9 (by decide)) (by decide)) hj22
          have hlv22 := (hK22.MI I0).1
          refine XG.br eX9_sleepsOn_83 (P := (aR a0 lv sl cr r 1 i (nI 0) (nI 0) (nI 100)) ≤ (lotF (v0 56) (((nI 16) * (r 30)) + (nI i)))) (r := [(.int (nI i)), (.ref 40)]) rfl (tgt := 90) (by decide) (fun h83 => ?_) (fun h83 => ?_)
          · skip
            have q42 : (a22 59) = (upd (a9 59) i (nI 0)) := hj22.2 59 (by decide)
            have q43 : (nI i).toNatClampNeg = i := nI_clamp (by omega)
            have q44 : (vp_nar .boolean (nI 0)) = (nI 0) := by decide
            have q45 : ((upd (upd (a9 59) i (nI 0)) i (nI 0)) i) = (nI 0) := pk_us
            refine XG.blk tX9_sleepsOn_ok 53 6 (pc' := 98) (pl' := [some (.ref 0), some (.int (nI i))]) (st' := [(.int ((upd (a22 59) (nI i).toNatClampNeg (vp_nar .boolean (nI 0))) (nI i).toNatClampNeg))]) (W1 := (mW v22 (va_up a22 59 (upd (a22 59) (nI i).toNatClampNeg (vp_nar .boolean (nI 0)))) b)) (bs := [px_vb (nI i) 6, px_vb (nI i) 6]) rfl rfl (by (try simp only [q42, q43, q44, q45]); exact (px_all (px_vbN (by omega) (by decide)) (px_all (px_vbN (by omega) (by decide)) rfl))) ?_
            simp only [q42, q43, q44, q45]
            refine XG.br eX9_sleepsOn_98 (P := ¬ (nI 0) = 0) (r := []) rfl (tgt := 131) (by decide) (fun h98 => ?_) (fun h98 => ?_)
            · exfalso
              have g98 : ¬ 0 = 0 := (fun z => h98 ((nI_eq (a := 0) (b := 0) (by omega) (by omega)).mpr z))
              omega
            · skip
              have h98 := Decidable.not_not.mp h98
              have g98 : 0 = 0 := (nI_eq (a := 0) (b := 0) (by omega) (by omega)).mp h98
              have q46 : (a22 55) = r := hK22.2.2.1
              have q47 : (nI i).toNatClampNeg = i := nI_clamp (by omega)
              refine XG.blk tX9_sleepsOn_ok 60 13 (pc' := 120) (pl' := [some (.ref 0), some (.int (nI i))]) (st' := [(.int (nI 9)), (.int (-9)), (.int (nI 0)), (.int (nI i)), (.int (nI 2)), (.ref 0), (.int ((a22 55) (nI i).toNatClampNeg)), (.int (nI i)), (.ref 39)]) (W1 := (mW v22 (va_up a22 59 (upd (upd (a9 59) i (nI 0)) i (nI 0))) b)) (bs := [px_vb (nI i) 32]) rfl rfl (by (try simp only [q46, q47]); exact (px_all (px_vbN (by omega) (by decide)) rfl)) ?_
              simp only [q46, q47]
              refine XG.callV0 eX9_sleepsOn_120 kl_X9_369 (con_aK (d - 1) v0 v22 a0 (va_up a22 59 (upd (upd (a9 59) i (nI 0)) i (nI 0))) b r _ (K.up hK22 (by decide)) lv sp sl cr I0 hw3 2 i (nI 0) (-9) (nI 9) (by omega) (by omega) (by omega)) (px_fitS (by omega)) rfl rfl rfl (Nat.le_of_ble_eq_true rfl) (fun r9 W9 hp9 hl9 => ?_)
              obtain ⟨v23, a23, rfl, hj23, rfl⟩ := hp9
              have hK23 := K.J (K.up hK22 (by decide)) hj23
              have hlv23 := (hK23.MI I0).1
              refine XG.blk tX9_sleepsOn_ok 74 3 (pc' := 127) (pl' := [some (.ref 0), some (.int (nI i))]) (st' := [(.int (nI 99)), (.int (nI 0)), (.int ((r i) + (aR a0 lv sl cr r 2 i (nI 0) (-9) (nI 9)))), (.int (nI i)), (.ref 39)]) (W1 := (mW v23 a23 b)) (bs := []) rfl rfl rfl ?_
              refine XG.callSp (r := some (.int (heldF ((r i) + (aR a0 lv sl cr r 2 i (nI 0) (-9) (nI 9))) (nI 0) (nI 99)))) eX9_sleepsOn_127 kl_X9_363 (con_held (d - 1) ((r i) + (aR a0 lv sl cr r 2 i (nI 0) (-9) (nI 9))) (nI 0) (nI 99)) (px_fitS (by omega)) rfl rfl rfl rfl (Nat.le_of_ble_eq_true rfl) ?_
              have q48 : (a23 58) = (upd (a9 58) i (r i)) := (hj23.2 58 (by decide)).trans (hj22.2 58 (by decide))
              have q49 : (nI i).toNatClampNeg = i := nI_clamp (by omega)
              have q50 : ((nI i) + (nI 1)) = (nI (i + 1)) := px_eadd rfl rfl
              refine XG.blk tX9_sleepsOn_ok 78 2 (pc' := 134) (pl' := [some (.ref 0), some (.int ((nI i) + (nI 1)))]) (st' := []) (W1 := (mW v23 (va_up a23 58 (upd (a23 58) (nI i).toNatClampNeg (heldF ((r i) + (aR a0 lv sl cr r 2 i (nI 0) (-9) (nI 9))) (nI 0) (nI 99)))) b)) (bs := [px_vb (nI i) 6]) rfl rfl (by (try simp only [q48, q49, q50]); exact (px_all (px_vbN (by omega) (by decide)) rfl)) ?_
              simp only [q48, q49, q50]
              refine XG.goto eX9_sleepsOn_134 (tgt := 2) (by decide) ?_
              exact ihi v23 (va_up a23 58 (upd (upd (a9 58) i (r i)) i (heldF ((r i) + (aR a0 lv sl cr r 2 i (nI 0) (-9) (nI 9))) (nI 0) (nI 99)))) (K.up hK23 (by decide)) (hT.st (fun j hj => by show (upd (upd (a9 58) i (r i)) i (heldF ((r i) + (aR a0 lv sl cr r 2 i (nI 0) (-9) (nI 9))) (nI 0) (nI 99))) j = a9 58 j; simp only [upd, if_neg hj]) (fun j hj => by show a23 59 j = a9 59 j; rw [show a23 59 = (upd (upd (a9 59) i (nI 0)) i (nI 0)) from hj23.2 59 (by decide)]; simp only [upd, if_neg hj]) (by show (upd (upd (a9 58) i (r i)) i (heldF ((r i) + (aR a0 lv sl cr r 2 i (nI 0) (-9) (nI 9))) (nI 0) (nI 99))) i = dpF v0 a0 lv sl cr r i; rw [pk_us]; unfold dpF; rw [if_pos ⟨(Decidable.not_not.mp (fun z => h39 (one_ne.mpr z))), fun hc => absurd hc.2.2 (Int32.not_lt.mpr h83)⟩]) (by show a23 59 i = wkI v0 a0 lv sl cr r i; rw [show a23 59 = (upd (upd (a9 59) i (nI 0)) i (nI 0)) from hj23.2 59 (by decide)]; rw [pk_us]; unfold wkI; rw [if_neg (fun hc => absurd hc.2.2 (Int32.not_lt.mpr h83))]))
          · skip
            refine XG.blk tX9_sleepsOn_ok 51 1 (pc' := 87) (pl' := [some (.ref 0), some (.int (nI i))]) (st' := [(.int (nI 1)), (.int (nI i)), (.ref 40)]) (W1 := (mW v22 a22 b)) (bs := []) rfl rfl rfl ?_
            refine XG.goto eX9_sleepsOn_87 (tgt := 91) (by decide) ?_
            have q51 : (a22 59) = (upd (a9 59) i (nI 0)) := hj22.2 59 (by decide)
            have q52 : (nI i).toNatClampNeg = i := nI_clamp (by omega)
            have q53 : (vp_nar .boolean (nI 1)) = (nI 1) := by decide
            have q54 : ((upd (upd (a9 59) i (nI 0)) i (nI 1)) i) = (nI 1) := pk_us
            refine XG.blk tX9_sleepsOn_ok 54 5 (pc' := 98) (pl' := [some (.ref 0), some (.int (nI i))]) (st' := [(.int ((upd (a22 59) (nI i).toNatClampNeg (vp_nar .boolean (nI 1))) (nI i).toNatClampNeg))]) (W1 := (mW v22 (va_up a22 59 (upd (a22 59) (nI i).toNatClampNeg (vp_nar .boolean (nI 1)))) b)) (bs := [px_vb (nI i) 6, px_vb (nI i) 6]) rfl rfl (by (try simp only [q51, q52, q53, q54]); exact (px_all (px_vbN (by omega) (by decide)) (px_all (px_vbN (by omega) (by decide)) rfl))) ?_
            simp only [q51, q52, q53, q54]
            refine XG.br eX9_sleepsOn_98 (P := ¬ (nI 1) = 0) (r := []) rfl (tgt := 131) (by decide) (fun h98 => ?_) (fun h98 => ?_)
            · skip
              have g98 : ¬ 1 = 0 := (fun z => h98 ((nI_eq (a := 1) (b := 0) (by omega) (by omega)).mpr z))
              have q55 : ((nI i) + (nI 1)) = (nI (i + 1)) := px_eadd rfl rfl
              refine XG.blk tX9_sleepsOn_ok 79 1 (pc' := 134) (pl' := [some (.ref 0), some (.int ((nI i) + (nI 1)))]) (st' := []) (W1 := (mW v22 (va_up a22 59 (upd (upd (a9 59) i (nI 0)) i (nI 1))) b)) (bs := []) rfl rfl rfl ?_
              simp only [q55]
              refine XG.goto eX9_sleepsOn_134 (tgt := 2) (by decide) ?_
              exact ihi v22 (va_up a22 59 (upd (upd (a9 59) i (nI 0)) i (nI 1))) (K.up hK22 (by decide)) (hT.st (fun j hj => by show a22 58 j = a9 58 j; rw [show a22 58 = (upd (a9 58) i (r i)) from hj22.2 58 (by decide)]; simp only [upd, if_neg hj]) (fun j hj => by show (upd (upd (a9 59) i (nI 0)) i (nI 1)) j = a9 59 j; simp only [upd, if_neg hj]) (by show a22 58 i = dpF v0 a0 lv sl cr r i; rw [show a22 58 = (upd (a9 58) i (r i)) from hj22.2 58 (by decide)]; rw [pk_us]; unfold dpF; rw [if_neg (fun hc => hc.2 ⟨(Decidable.not_not.mp (fun z => h39 (one_ne.mpr z))), h54, Int32.not_le.mp h83⟩)]) (by show (upd (upd (a9 59) i (nI 0)) i (nI 1)) i = wkI v0 a0 lv sl cr r i; rw [pk_us]; unfold wkI; rw [if_pos ⟨(Decidable.not_not.mp (fun z => h39 (one_ne.mpr z))), h54, Int32.not_le.mp h83⟩]))
            · exfalso
              have h98 := Decidable.not_not.mp h98
              have g98 : 1 = 0 := (nI_eq (a := 1) (b := 0) (by omega) (by omega)).mp h98
              omega
      · skip
        have h39 := Decidable.not_not.mp h39
        refine XG.goto eX9_sleepsOn_42 (tgt := 131) (by decide) ?_
        have q56 : ((nI i) + (nI 1)) = (nI (i + 1)) := px_eadd rfl rfl
        refine XG.blk tX9_sleepsOn_ok 79 1 (pc' := 134) (pl' := [some (.ref 0), some (.int ((nI i) + (nI 1)))]) (st' := []) (W1 := (mW v9 (va_up (va_up a9 58 (upd (a9 58) i (r i))) 59 (upd (a9 59) i (nI 0))) b)) (bs := []) rfl rfl rfl ?_
        simp only [q56]
        refine XG.goto eX9_sleepsOn_134 (tgt := 2) (by decide) ?_
        exact ihi v9 (va_up (va_up a9 58 (upd (a9 58) i (r i))) 59 (upd (a9 59) i (nI 0))) (K.up (K.up hK9 (by decide)) (by decide)) (hT.st (fun j hj => by show (upd (a9 58) i (r i)) j = a9 58 j; simp only [upd, if_neg hj]) (fun j hj => by show (upd (a9 59) i (nI 0)) j = a9 59 j; simp only [upd, if_neg hj]) (by show (upd (a9 58) i (r i)) i = dpF v0 a0 lv sl cr r i; rw [pk_us]; unfold dpF; rw [if_neg (fun hc => (one_ne.mp h39) hc.1)]) (by show (upd (a9 59) i (nI 0)) i = wkI v0 a0 lv sl cr r i; rw [pk_us]; unfold wkI; rw [if_neg (fun hc => (one_ne.mp h39) hc.1)]))
