/-! the reference: dreams; what a sleeper's law sees -/
/-- fewer locals known -/
def px_le : px_L → px_L → Prop
  | [], _ => True
  | none :: r, _ :: s => px_le r s
  | some v :: r, x :: s => x = some v ∧ px_le r s
  | _ :: _, [] => False
theorem px_le_at : ∀ (r s : px_L) (i : Nat) (v : Value), px_le r s → r[i]? = some (some v) → s[i]? = some (some v) := by
  intro r
  induction r with
  | nil => intro s i v _ h; cases h
  | cons x r ih =>
    intro s i v hl h
    cases s with
    | nil => cases x <;> exact hl.elim
    | cons y s =>
      cases x with
      | none =>
        cases i with
        | zero => cases h
        | succ i => exact ih s i v hl h
      | some w =>
        cases i with
        | zero => cases h; rw [hl.1]; rfl
        | succ i => exact ih s i v hl.2 h
theorem XG.weak {M : px_M} {G : px_G} {nc ns pc : Nat} {pl pl' : px_L} {st : List Value} {W0 : px_W} (h : px_le pl' pl) (k : XG M G nc ns pc pl' st W0) : XG M G nc ns pc pl st W0 :=
  fun p l e s m args below meth c D cA ad0 ad A n0 hC hXt hn H locs ls hP hD hS hl => k p l e s m args below meth c D cA ad0 ad A n0 hC hXt hn H locs ls hP hD hS ⟨hl.1, fun i v hi => hl.2 i v (px_le_at _ _ i v h hi)⟩
abbrev drP (row : Nat → Int32) (dawn : Int32) (dr : Nat → Int32) (lv : Nat) (p : Int32) (x y : Nat) : Prop := ((dr (6 * lv + x) >>> (nI y &&& 31)) &&& nI 1) = nI 1 ∧ row (12 + x) = p ∧ row (12 + y) = p ∧ slp row dawn x ∧ slp row dawn y
def drI (row : Nat → Int32) (dawn : Int32) (dr : Nat → Int32) (lv : Nat) (p : Int32) (x : Nat) : Nat → Int32 → Int32 := fun y n => if drP row dawn dr lv p x y then n + nI 1 else n
def drO (row : Nat → Int32) (dawn : Int32) (dr : Nat → Int32) (lv : Nat) (p : Int32) : Nat → Int32 → Int32 := fun x n => itN (drI row dawn dr lv p x) n x
set_option maxHeartbeats 400000 in
theorem con_dreamsOn (d : Nat) (v : Nat → Int32) (a : Nat → Nat → Int32) (b : Nat → Nat → Int64) (p : Int32) (lv sp sl cr : Nat) (I : MI v a lv sp sl cr) (hd : 1 ≤ d) : Con mX9_dreamsOn d [.ref 0, .int p] (mW v a b) (fun r W' => W' = mW v a b ∧ r = some (.int (itN (drO (a 55) (a 35 lv) (a 29) lv p) 0 sl))) := by
  obtain ⟨hlv, hlv2, hsp, hsp1, hsp2, hsl, hsl2, hcr, hcr2⟩ := id I
  refine Con.of (by decide) (Nat.le_of_ble_eq_true rfl) ?_
  refine XG.blk tX9_dreamsOn_ok 0 4 (pc' := 4) (pl' := [some (.ref 0), some (.int p), some (.int (nI 0)), some (.int (nI 0)), none]) (st' := []) (W1 := (mW v a b)) (bs := []) rfl rfl rfl ?_
  refine px_for sl (fun i => XG mX9_dreamsOn _ 0 0 4 [some (.ref 0), some (.int p), some (.int (itN (drO (a 55) (a 35 lv) (a 29) lv p) 0 i)), some (.int (nI i)), none] [] (mW v a b)) ?_ ?_ 0 (by omega)
  · skip
    have q1 : (v 18) = (nI lv) := hlv
    have q2 : (nI lv).toNatClampNeg = lv := nI_clamp (by omega)
    have q3 : ((a 24) lv) = (nI sl) := hsl
    refine XG.blk tX9_dreamsOn_ok 4 6 (pc' := 14) (pl' := [some (.ref 0), some (.int p), some (.int (itN (drO (a 55) (a 35 lv) (a 29) lv p) 0 sl)), some (.int (nI sl)), none]) (st' := [(.int ((a 24) (v 18).toNatClampNeg)), (.int (nI sl))]) (W1 := (mW v a b)) (bs := [px_vb (v 18) 2]) rfl rfl (by (try simp only [q1, q2, q3]); exact (px_all (px_vbN (by omega) (by decide)) rfl)) ?_
    simp only [q1, q2, q3]
    refine XG.br eX9_dreamsOn_14 (P := (nI sl) ≤ (nI sl)) (r := []) rfl (tgt := 108) (by decide) (fun h14 => ?_) (fun h14 => ?_)
    · skip
      have g14 : sl ≤ sl := (nI_leI (a := sl) (b := sl) (by omega) (by omega)).mp h14
      refine XG.blk tX9_dreamsOn_ok 60 1 (pc' := 109) (pl' := [some (.ref 0), some (.int p), some (.int (itN (drO (a 55) (a 35 lv) (a 29) lv p) 0 sl)), some (.int (nI sl)), none]) (st' := [(.int (itN (drO (a 55) (a 35 lv) (a 29) lv p) 0 sl))]) (W1 := (mW v a b)) (bs := []) rfl rfl rfl ?_
      refine XS.iret eX9_dreamsOn_109 rfl rfl ?_
      exact ⟨rfl, rfl⟩
    · exfalso
      have g14 : ¬ sl ≤ sl := (fun z => h14 ((nI_leI (a := sl) (b := sl) (by omega) (by omega)).mpr z))
      omega
  · intro i hi ihi
    have q4 : (v 18) = (nI lv) := hlv
    have q5 : (nI lv).toNatClampNeg = lv := nI_clamp (by omega)
    have q6 : ((a 24) lv) = (nI sl) := hsl
    refine XG.blk tX9_dreamsOn_ok 4 6 (pc' := 14) (pl' := [some (.ref 0), some (.int p), some (.int (itN (drO (a 55) (a 35 lv) (a 29) lv p) 0 i)), some (.int (nI i)), none]) (st' := [(.int ((a 24) (v 18).toNatClampNeg)), (.int (nI i))]) (W1 := (mW v a b)) (bs := [px_vb (v 18) 2]) rfl rfl (by (try simp only [q4, q5, q6]); exact (px_all (px_vbN (by omega) (by decide)) rfl)) ?_
    simp only [q4, q5, q6]
    refine XG.br eX9_dreamsOn_14 (P := (nI sl) ≤ (nI i)) (r := []) rfl (tgt := 108) (by decide) (fun h14 => ?_) (fun h14 => ?_)
    · exfalso
      have g14 : sl ≤ i := (nI_leI (a := sl) (b := i) (by omega) (by omega)).mp h14
      omega
    · skip
      have g14 : ¬ sl ≤ i := (fun z => h14 ((nI_leI (a := sl) (b := i) (by omega) (by omega)).mpr z))
      refine XG.blk tX9_dreamsOn_ok 11 2 (pc' := 20) (pl' := [some (.ref 0), some (.int p), some (.int (itN (drO (a 55) (a 35 lv) (a 29) lv p) 0 i)), some (.int (nI i)), some (.int (nI 0))]) (st' := []) (W1 := (mW v a b)) (bs := []) rfl rfl rfl ?_
      refine px_for i (fun j => XG mX9_dreamsOn _ 0 0 20 [some (.ref 0), some (.int p), some (.int (itN (drI (a 55) (a 35 lv) (a 29) lv p i) (itN (drO (a 55) (a 35 lv) (a 29) lv p) 0 i) j)), some (.int (nI i)), some (.int (nI j))] [] (mW v a b)) ?_ ?_ 0 (by omega)
      · skip
        refine XG.blk tX9_dreamsOn_ok 13 2 (pc' := 23) (pl' := [some (.ref 0), some (.int p), some (.int (itN (drI (a 55) (a 35 lv) (a 29) lv p i) (itN (drO (a 55) (a 35 lv) (a 29) lv p) 0 i) i)), some (.int (nI i)), some (.int (nI i))]) (st' := [(.int (nI i)), (.int (nI i))]) (W1 := (mW v a b)) (bs := []) rfl rfl rfl ?_
        refine XG.br eX9_dreamsOn_23 (P := (nI i) ≤ (nI i)) (r := []) rfl (tgt := 102) (by decide) (fun h23 => ?_) (fun h23 => ?_)
        · skip
          have g23 : i ≤ i := (nI_leI (a := i) (b := i) (by omega) (by omega)).mp h23
          have q7 : ((nI i) + (nI 1)) = (nI (i + 1)) := px_eadd rfl rfl
          refine XG.blk tX9_dreamsOn_ok 58 1 (pc' := 105) (pl' := [some (.ref 0), some (.int p), some (.int (itN (drI (a 55) (a 35 lv) (a 29) lv p i) (itN (drO (a 55) (a 35 lv) (a 29) lv p) 0 i) i)), some (.int ((nI i) + (nI 1))), some (.int (nI i))]) (st' := []) (W1 := (mW v a b)) (bs := []) rfl rfl rfl ?_
          simp only [q7]
          refine XG.goto eX9_dreamsOn_105 (tgt := 4) (by decide) ?_
          refine XG.weak (pl' := [some (.ref 0), some (.int p), some (.int (itN (drO (a 55) (a 35 lv) (a 29) lv p) 0 (i + 1))), some (.int (nI (i + 1))), none]) ⟨rfl, rfl, rfl, rfl, trivial⟩ ?_
          exact ihi
        · exfalso
          have g23 : ¬ i ≤ i := (fun z => h23 ((nI_leI (a := i) (b := i) (by omega) (by omega)).mpr z))
          omega
      · intro j hj ihj
        refine XG.blk tX9_dreamsOn_ok 13 2 (pc' := 23) (pl' := [some (.ref 0), some (.int p), some (.int (itN (drI (a 55) (a 35 lv) (a 29) lv p i) (itN (drO (a 55) (a 35 lv) (a 29) lv p) 0 i) j)), some (.int (nI i)), some (.int (nI j))]) (st' := [(.int (nI i)), (.int (nI j))]) (W1 := (mW v a b)) (bs := []) rfl rfl rfl ?_
        refine XG.br eX9_dreamsOn_23 (P := (nI i) ≤ (nI j)) (r := []) rfl (tgt := 102) (by decide) (fun h23 => ?_) (fun h23 => ?_)
        · exfalso
          have g23 : i ≤ j := (nI_leI (a := i) (b := j) (by omega) (by omega)).mp h23
          omega
        · skip
          have g23 : ¬ i ≤ j := (fun z => h23 ((nI_leI (a := i) (b := j) (by omega) (by omega)).mpr z))
          have q8 : (v 18) = (nI lv) := hlv
          have q9 : ((nI 6) * (nI lv)) = (nI (6 * lv)) := px_emul rfl rfl
          have q10 : ((nI (6 * lv)) + (nI i)) = (nI ((6 * lv) + i)) := px_eadd rfl rfl
          have q11 : (nI ((6 * lv) + i)).toNatClampNeg = ((6 * lv) + i) := nI_clamp (by omega)
          refine XG.blk tX9_dreamsOn_ok 16 14 (pc' := 46) (pl' := [some (.ref 0), some (.int p), some (.int (itN (drI (a 55) (a 35 lv) (a 29) lv p i) (itN (drO (a 55) (a 35 lv) (a 29) lv p) 0 i) j)), some (.int (nI i)), some (.int (nI j))]) (st' := [(.int (nI 1)), (.int ((((a 29) (((nI 6) * (v 18)) + (nI i)).toNatClampNeg) >>> ((nI j) &&& 31)) &&& (nI 1)))]) (W1 := (mW v a b)) (bs := [px_vb (((nI 6) * (v 18)) + (nI i)) 12]) rfl rfl (by (try simp only [q8, q9, q10, q11]); exact (px_all (px_vbN (by omega) (by decide)) rfl)) ?_
          simp only [q8, q9, q10, q11]
          refine XG.br eX9_dreamsOn_46 (P := ¬ ((((a 29) ((6 * lv) + i)) >>> ((nI j) &&& 31)) &&& (nI 1)) = (nI 1)) (r := []) rfl (tgt := 96) (by decide) (fun h46 => ?_) (fun h46 => ?_)
          · skip
            have q12 : ((nI j) + (nI 1)) = (nI (j + 1)) := px_eadd rfl rfl
            refine XG.blk tX9_dreamsOn_ok 56 1 (pc' := 99) (pl' := [some (.ref 0), some (.int p), some (.int (itN (drI (a 55) (a 35 lv) (a 29) lv p i) (itN (drO (a 55) (a 35 lv) (a 29) lv p) 0 i) j)), some (.int (nI i)), some (.int ((nI j) + (nI 1)))]) (st' := []) (W1 := (mW v a b)) (bs := []) rfl rfl rfl ?_
            simp only [q12]
            refine XG.goto eX9_dreamsOn_99 (tgt := 20) (by decide) ?_
            rw [show (itN (drI (a 55) (a 35 lv) (a 29) lv p i) (itN (drO (a 55) (a 35 lv) (a 29) lv p) 0 i) (j + 1)) = (itN (drI (a 55) (a 35 lv) (a 29) lv p i) (itN (drO (a 55) (a 35 lv) (a 29) lv p) 0 i) j) from if_neg (fun hc => h46 hc.1)] at ihj; exact ihj
          · skip
            have h46 := Decidable.not_not.mp h46
            have q13 : ((nI 12) + (nI i)) = (nI (12 + i)) := px_eadd rfl rfl
            have q14 : (nI (12 + i)).toNatClampNeg = (12 + i) := nI_clamp (by omega)
            refine XG.blk tX9_dreamsOn_ok 31 7 (pc' := 59) (pl' := [some (.ref 0), some (.int p), some (.int (itN (drI (a 55) (a 35 lv) (a 29) lv p i) (itN (drO (a 55) (a 35 lv) (a 29) lv p) 0 i) j)), some (.int (nI i)), some (.int (nI j))]) (st' := [(.int p), (.int ((a 55) ((nI 12) + (nI i)).toNatClampNeg))]) (W1 := (mW v a b)) (bs := [px_vb ((nI 12) + (nI i)) 32]) rfl rfl (by (try simp only [q13, q14]); exact (px_all (px_vbN (by omega) (by decide)) rfl)) ?_
            simp only [q13, q14]
            refine XG.br eX9_dreamsOn_59 (P := ¬ ((a 55) (12 + i)) = p) (r := []) rfl (tgt := 96) (by decide) (fun h59 => ?_) (fun h59 => ?_)
            · skip
              have q15 : ((nI j) + (nI 1)) = (nI (j + 1)) := px_eadd rfl rfl
              refine XG.blk tX9_dreamsOn_ok 56 1 (pc' := 99) (pl' := [some (.ref 0), some (.int p), some (.int (itN (drI (a 55) (a 35 lv) (a 29) lv p i) (itN (drO (a 55) (a 35 lv) (a 29) lv p) 0 i) j)), some (.int (nI i)), some (.int ((nI j) + (nI 1)))]) (st' := []) (W1 := (mW v a b)) (bs := []) rfl rfl rfl ?_
              simp only [q15]
              refine XG.goto eX9_dreamsOn_99 (tgt := 20) (by decide) ?_
              rw [show (itN (drI (a 55) (a 35 lv) (a 29) lv p i) (itN (drO (a 55) (a 35 lv) (a 29) lv p) 0 i) (j + 1)) = (itN (drI (a 55) (a 35 lv) (a 29) lv p i) (itN (drO (a 55) (a 35 lv) (a 29) lv p) 0 i) j) from if_neg (fun hc => h59 hc.2.1)] at ihj; exact ihj
            · skip
              have h59 := Decidable.not_not.mp h59
              have q16 : ((nI 12) + (nI j)) = (nI (12 + j)) := px_eadd rfl rfl
              have q17 : (nI (12 + j)).toNatClampNeg = (12 + j) := nI_clamp (by omega)
              refine XG.blk tX9_dreamsOn_ok 39 7 (pc' := 73) (pl' := [some (.ref 0), some (.int p), some (.int (itN (drI (a 55) (a 35 lv) (a 29) lv p i) (itN (drO (a 55) (a 35 lv) (a 29) lv p) 0 i) j)), some (.int (nI i)), some (.int (nI j))]) (st' := [(.int p), (.int ((a 55) ((nI 12) + (nI j)).toNatClampNeg))]) (W1 := (mW v a b)) (bs := [px_vb ((nI 12) + (nI j)) 32]) rfl rfl (by (try simp only [q16, q17]); exact (px_all (px_vbN (by omega) (by decide)) rfl)) ?_
              simp only [q16, q17]
              refine XG.br eX9_dreamsOn_73 (P := ¬ ((a 55) (12 + j)) = p) (r := []) rfl (tgt := 96) (by decide) (fun h73 => ?_) (fun h73 => ?_)
              · skip
                have q18 : ((nI j) + (nI 1)) = (nI (j + 1)) := px_eadd rfl rfl
                refine XG.blk tX9_dreamsOn_ok 56 1 (pc' := 99) (pl' := [some (.ref 0), some (.int p), some (.int (itN (drI (a 55) (a 35 lv) (a 29) lv p i) (itN (drO (a 55) (a 35 lv) (a 29) lv p) 0 i) j)), some (.int (nI i)), some (.int ((nI j) + (nI 1)))]) (st' := []) (W1 := (mW v a b)) (bs := []) rfl rfl rfl ?_
                simp only [q18]
                refine XG.goto eX9_dreamsOn_99 (tgt := 20) (by decide) ?_
                rw [show (itN (drI (a 55) (a 35 lv) (a 29) lv p i) (itN (drO (a 55) (a 35 lv) (a 29) lv p) 0 i) (j + 1)) = (itN (drI (a 55) (a 35 lv) (a 29) lv p i) (itN (drO (a 55) (a 35 lv) (a 29) lv p) 0 i) j) from if_neg (fun hc => h73 hc.2.2.1)] at ihj; exact ihj
              · skip
                have h73 := Decidable.not_not.mp h73
                refine XG.blk tX9_dreamsOn_ok 47 2 (pc' := 78) (pl' := [some (.ref 0), some (.int p), some (.int (itN (drI (a 55) (a 35 lv) (a 29) lv p i) (itN (drO (a 55) (a 35 lv) (a 29) lv p) 0 i) j)), some (.int (nI i)), some (.int (nI j))]) (st' := [(.int (nI i)), (.ref 0)]) (W1 := (mW v a b)) (bs := []) rfl rfl rfl ?_
                refine XG.callV0 eX9_dreamsOn_78 kl_X9_348 (con_isAsleep (d - 1) v a b i (by omega) _ _ _ _ I) (px_fitS (by omega)) rfl rfl rfl (Nat.le_of_ble_eq_true rfl) (fun r9 W9 hp9 hl9 => ?_)
                obtain ⟨rfl, rfl⟩ := hp9
                refine XG.br eX9_dreamsOn_81 (P := (if slp (a 55) ((a 35) lv) i then 1 else 0) = 0) (r := []) rfl (tgt := 96) (by decide) (fun h81 => ?_) (fun h81 => ?_)
                · skip
                  have q19 : ((nI j) + (nI 1)) = (nI (j + 1)) := px_eadd rfl rfl
                  refine XG.blk tX9_dreamsOn_ok 56 1 (pc' := 99) (pl' := [some (.ref 0), some (.int p), some (.int (itN (drI (a 55) (a 35 lv) (a 29) lv p i) (itN (drO (a 55) (a 35 lv) (a 29) lv p) 0 i) j)), some (.int (nI i)), some (.int ((nI j) + (nI 1)))]) (st' := []) (W1 := (mW v a b)) (bs := []) rfl rfl rfl ?_
                  simp only [q19]
                  refine XG.goto eX9_dreamsOn_99 (tgt := 20) (by decide) ?_
                  rw [show (itN (drI (a 55) (a 35 lv) (a 29) lv p i) (itN (drO (a 55) (a 35 lv) (a 29) lv p) 0 i) (j + 1)) = (itN (drI (a 55) (a 35 lv) (a 29) lv p i) (itN (drO (a 55) (a 35 lv) (a 29) lv p) 0 i) j) from if_neg (fun hc => (one_ne.mp h81) hc.2.2.2.1)] at ihj; exact ihj
                · skip
                  refine XG.blk tX9_dreamsOn_ok 51 2 (pc' := 87) (pl' := [some (.ref 0), some (.int p), some (.int (itN (drI (a 55) (a 35 lv) (a 29) lv p i) (itN (drO (a 55) (a 35 lv) (a 29) lv p) 0 i) j)), some (.int (nI i)), some (.int (nI j))]) (st' := [(.int (nI j)), (.ref 0)]) (W1 := (mW v a b)) (bs := []) rfl rfl rfl ?_
                  refine XG.callV0 eX9_dreamsOn_87 kl_X9_348 (con_isAsleep (d - 1) v a b j (by omega) _ _ _ _ I) (px_fitS (by omega)) rfl rfl rfl (Nat.le_of_ble_eq_true rfl) (fun r9 W9 hp9 hl9 => ?_)
                  obtain ⟨rfl, rfl⟩ := hp9
                  refine XG.br eX9_dreamsOn_90 (P := (if slp (a 55) ((a 35) lv) j then 1 else 0) = 0) (r := []) rfl (tgt := 96) (by decide) (fun h90 => ?_) (fun h90 => ?_)
                  · skip
                    have q20 : ((nI j) + (nI 1)) = (nI (j + 1)) := px_eadd rfl rfl
                    refine XG.blk tX9_dreamsOn_ok 56 1 (pc' := 99) (pl' := [some (.ref 0), some (.int p), some (.int (itN (drI (a 55) (a 35 lv) (a 29) lv p i) (itN (drO (a 55) (a 35 lv) (a 29) lv p) 0 i) j)), some (.int (nI i)), some (.int ((nI j) + (nI 1)))]) (st' := []) (W1 := (mW v a b)) (bs := []) rfl rfl rfl ?_
                    simp only [q20]
                    refine XG.goto eX9_dreamsOn_99 (tgt := 20) (by decide) ?_
                    rw [show (itN (drI (a 55) (a 35 lv) (a 29) lv p i) (itN (drO (a 55) (a 35 lv) (a 29) lv p) 0 i) (j + 1)) = (itN (drI (a 55) (a 35 lv) (a 29) lv p i) (itN (drO (a 55) (a 35 lv) (a 29) lv p) 0 i) j) from if_neg (fun hc => (one_ne.mp h90) hc.2.2.2.2)] at ihj; exact ihj
                  · skip
                    have q21 : ((nI j) + (nI 1)) = (nI (j + 1)) := px_eadd rfl rfl
                    refine XG.blk tX9_dreamsOn_ok 55 2 (pc' := 99) (pl' := [some (.ref 0), some (.int p), some (.int ((itN (drI (a 55) (a 35 lv) (a 29) lv p i) (itN (drO (a 55) (a 35 lv) (a 29) lv p) 0 i) j) + (nI 1))), some (.int (nI i)), some (.int ((nI j) + (nI 1)))]) (st' := []) (W1 := (mW v a b)) (bs := []) rfl rfl rfl ?_
                    simp only [q21]
                    refine XG.goto eX9_dreamsOn_99 (tgt := 20) (by decide) ?_
                    rw [show (itN (drI (a 55) (a 35 lv) (a 29) lv p i) (itN (drO (a 55) (a 35 lv) (a 29) lv p) 0 i) (j + 1)) = (itN (drI (a 55) (a 35 lv) (a 29) lv p i) (itN (drO (a 55) (a 35 lv) (a 29) lv p) 0 i) j) + nI 1 from if_pos ⟨h46, h59, h73, Decidable.not_not.mp (fun z => h81 (one_ne.mpr z)), Decidable.not_not.mp (fun z => h90 (one_ne.mpr z))⟩] at ihj; exact ihj
abbrev bsP (row : Nat → Int32) (dawn : Int32) (k x : Nat) : Prop := ¬ x = k ∧ slp row dawn x ∧ row (12 + x) = row (12 + k)
def bsF (row : Nat → Int32) (dawn : Int32) (k : Nat) : Nat → Int32 → Int32 := fun x n => if bsP row dawn k x then n + nI 1 else n
/-- what the law sees of sleeper k -/
def lookF (row : Nat → Int32) (dawn : Int32) (weight wage load noise : Nat → Int32) (lv sl cr k : Nat) (old : Nat → Int32) : Nat → Int32 :=
  upd (upd (upd (upd (upd (upd (upd (upd (upd old 0 (row k)) 1 (weight (6 * lv + k))) 2 (row 28)) 3 (itN (noiseF row noise lv) 0 cr)) 4 (nI k)) 5 (row (12 + k))) 6 (itN (bsF row dawn k) 0 sl)) 7 (itN (loadF row load lv (row (12 + k))) 0 cr)) 8 (wage (6 * lv + k))
set_option maxHeartbeats 400000 in
theorem con_looks (d : Nat) (v : Nat → Int32) (a : Nat → Nat → Int32) (b : Nat → Nat → Int64) (k : Nat) (lv sp sl cr : Nat) (I : MI v a lv sp sl cr) (hk : k < sl) (hd : 2 ≤ d) : Con mX9_looks d [.ref 0, .int (nI k)] (mW v a b) (fun r W' => W' = mW v (va_up a 51 (lookF (a 55) (a 35 lv) (a 26) (a 27) (a 32) (a 33) lv sl cr k (a 51))) b ∧ r = none) := by
  obtain ⟨hlv, hlv2, hsp, hsp1, hsp2, hsl, hsl2, hcr, hcr2⟩ := id I
  refine Con.of (by decide) (Nat.le_of_ble_eq_true rfl) ?_
  have q1 : (v 18) = (nI lv) := hlv
  have q2 : ((nI 6) * (nI lv)) = (nI (6 * lv)) := px_emul rfl rfl
  have q3 : ((nI (6 * lv)) + (nI k)) = (nI ((6 * lv) + k)) := px_eadd rfl rfl
  refine XG.blk tX9_looks_ok 0 11 (pc' := 15) (pl' := [some (.ref 0), some (.int (nI k)), some (.int (((nI 6) * (v 18)) + (nI k))), some (.int (nI 0)), some (.int (nI 0))]) (st' := []) (W1 := (mW v a b)) (bs := []) rfl rfl rfl ?_
  simp only [q1, q2, q3]
  refine px_for sl (fun i => XG mX9_looks _ 0 0 15 [some (.ref 0), some (.int (nI k)), some (.int (nI ((6 * lv) + k))), some (.int (itN (bsF (a 55) (a 35 lv) k) 0 i)), some (.int (nI i))] [] (mW v a b)) ?_ ?_ 0 (by omega)
  · skip
    have q4 : (v 18) = (nI lv) := hlv
    have q5 : (nI lv).toNatClampNeg = lv := nI_clamp (by omega)
    have q6 : ((a 24) lv) = (nI sl) := hsl
    refine XG.blk tX9_looks_ok 11 6 (pc' := 26) (pl' := [some (.ref 0), some (.int (nI k)), some (.int (nI ((6 * lv) + k))), some (.int (itN (bsF (a 55) (a 35 lv) k) 0 sl)), some (.int (nI sl))]) (st' := [(.int ((a 24) (v 18).toNatClampNeg)), (.int (nI sl))]) (W1 := (mW v a b)) (bs := [px_vb (v 18) 2]) rfl rfl (by (try simp only [q4, q5, q6]); exact (px_all (px_vbN (by omega) (by decide)) rfl)) ?_
    simp only [q4, q5, q6]
    refine XG.br eX9_looks_26 (P := (nI sl) ≤ (nI sl)) (r := []) rfl (tgt := 75) (by decide) (fun h26 => ?_) (fun h26 => ?_)
    · skip
      have g26 : sl ≤ sl := (nI_leI (a := sl) (b := sl) (by omega) (by omega)).mp h26
      have q7 : (nI k).toNatClampNeg = k := nI_clamp (by omega)
      have q8 : (nI 0).toNatClampNeg = 0 := nI_clamp (by omega)
      have q9 : (nI ((6 * lv) + k)).toNatClampNeg = ((6 * lv) + k) := nI_clamp (by omega)
      have q10 : (nI 1).toNatClampNeg = 1 := nI_clamp (by omega)
      have q11 : (nI 28).toNatClampNeg = 28 := nI_clamp (by omega)
      have q12 : (nI 2).toNatClampNeg = 2 := nI_clamp (by omega)
      refine XG.blk tX9_looks_ok 41 28 (pc' := 118) (pl' := [some (.ref 0), some (.int (nI k)), some (.int (nI ((6 * lv) + k))), some (.int (itN (bsF (a 55) (a 35 lv) k) 0 sl)), some (.int (nI sl))]) (st' := [(.ref 0), (.int (nI 3)), (.ref 35)]) (W1 := (mW v (va_up a 51 (upd (upd (upd (a 51) (nI 0).toNatClampNeg ((a 55) (nI k).toNatClampNeg)) (nI 1).toNatClampNeg ((a 26) (nI ((6 * lv) + k)).toNatClampNeg)) (nI 2).toNatClampNeg ((a 55) (nI 28).toNatClampNeg))) b)) (bs := [px_vb (nI k) 32, px_vb (nI 0) 9, px_vb (nI ((6 * lv) + k)) 12, px_vb (nI 1) 9, px_vb (nI 28) 32, px_vb (nI 2) 9]) rfl rfl (by (try simp only [q7, q8, q9, q10, q11, q12]); exact (px_all (px_vbN (by omega) (by decide)) (px_all (px_vbN (by omega) (by decide)) (px_all (px_vbN (by omega) (by decide)) (px_all (px_vbN (by omega) (by decide)) (px_all (px_vbN (by omega) (by decide)) (px_all (px_vbN (by omega) (by decide)) rfl))))))) ?_
      simp only [q7, q8, q9, q10, q11, q12]
      refine XG.callV0 eX9_looks_118 kl_X9_351 (con_noiseNow (d - 1) v (va_up a 51 (upd (upd (upd (a 51) 0 ((a 55) k)) 1 ((a 26) ((6 * lv) + k))) 2 ((a 55) 28))) b _ _ _ _ I (by omega)) (px_fitS (by omega)) rfl rfl rfl (Nat.le_of_ble_eq_true rfl) (fun r9 W9 hp9 hl9 => ?_)
      obtain ⟨rfl, rfl⟩ := hp9
      have q13 : (nI 3).toNatClampNeg = 3 := nI_clamp (by omega)
      have q14 : (nI 4).toNatClampNeg = 4 := nI_clamp (by omega)
      have q15 : ((nI 12) + (nI k)) = (nI (12 + k)) := px_eadd rfl rfl
      have q16 : (nI (12 + k)).toNatClampNeg = (12 + k) := nI_clamp (by omega)
      have q17 : (nI 5).toNatClampNeg = 5 := nI_clamp (by omega)
      have q18 : (nI 6).toNatClampNeg = 6 := nI_clamp (by omega)
      refine XG.blk tX9_looks_ok 70 31 (pc' := 168) (pl' := [some (.ref 0), some (.int (nI k)), some (.int (nI ((6 * lv) + k))), some (.int (itN (bsF (a 55) (a 35 lv) k) 0 sl)), some (.int (nI sl))]) (st' := [(.int ((a 55) ((nI 12) + (nI k)).toNatClampNeg)), (.ref 0), (.int (nI 7)), (.ref 35)]) (W1 := (mW v (va_up a 51 (upd (upd (upd (upd (upd (upd (upd (a 51) 0 ((a 55) k)) 1 ((a 26) ((6 * lv) + k))) 2 ((a 55) 28)) (nI 3).toNatClampNeg (itN (noiseF (a 55) (a 33) lv) 0 cr)) (nI 4).toNatClampNeg (nI k)) (nI 5).toNatClampNeg ((a 55) ((nI 12) + (nI k)).toNatClampNeg)) (nI 6).toNatClampNeg (itN (bsF (a 55) (a 35 lv) k) 0 sl))) b)) (bs := [px_vb (nI 3) 9, px_vb (nI 4) 9, px_vb ((nI 12) + (nI k)) 32, px_vb (nI 5) 9, px_vb (nI 6) 9, px_vb ((nI 12) + (nI k)) 32]) rfl rfl (by (try simp only [q13, q14, q15, q16, q17, q18]); exact (px_all (px_vbN (by omega) (by decide)) (px_all (px_vbN (by omega) (by decide)) (px_all (px_vbN (by omega) (by decide)) (px_all (px_vbN (by omega) (by decide)) (px_all (px_vbN (by omega) (by decide)) (px_all (px_vbN (by omega) (by decide)) rfl))))))) ?_
      simp only [q13, q14, q15, q16, q17, q18]
      refine XG.callV0 eX9_looks_168 kl_X9_354 (con_loadOn (d - 1) v (va_up a 51 (upd (upd (upd (upd (upd (upd (upd (a 51) 0 ((a 55) k)) 1 ((a 26) ((6 * lv) + k))) 2 ((a 55) 28)) 3 (itN (noiseF (a 55) (a 33) lv) 0 cr)) 4 (nI k)) 5 ((a 55) (12 + k))) 6 (itN (bsF (a 55) (a 35 lv) k) 0 sl))) b ((a 55) (12 + k)) _ _ _ _ I) (px_fitS (by omega)) rfl rfl rfl (Nat.le_of_ble_eq_true rfl) (fun r9 W9 hp9 hl9 => ?_)
      obtain ⟨rfl, rfl⟩ := hp9
      have q19 : (nI 7).toNatClampNeg = 7 := nI_clamp (by omega)
      have q20 : (nI ((6 * lv) + k)).toNatClampNeg = ((6 * lv) + k) := nI_clamp (by omega)
      have q21 : (nI 8).toNatClampNeg = 8 := nI_clamp (by omega)
      refine XG.blk tX9_looks_ok 102 9 (pc' := 185) (pl' := [some (.ref 0), some (.int (nI k)), some (.int (nI ((6 * lv) + k))), some (.int (itN (bsF (a 55) (a 35 lv) k) 0 sl)), some (.int (nI sl))]) (st' := []) (W1 := (mW v (va_up a 51 (upd (upd (upd (upd (upd (upd (upd (upd (upd (a 51) 0 ((a 55) k)) 1 ((a 26) ((6 * lv) + k))) 2 ((a 55) 28)) 3 (itN (noiseF (a 55) (a 33) lv) 0 cr)) 4 (nI k)) 5 ((a 55) (12 + k))) 6 (itN (bsF (a 55) (a 35 lv) k) 0 sl)) (nI 7).toNatClampNeg (itN (loadF (a 55) (a 32) lv ((a 55) (12 + k))) 0 cr)) (nI 8).toNatClampNeg ((a 27) (nI ((6 * lv) + k)).toNatClampNeg))) b)) (bs := [px_vb (nI 7) 9, px_vb (nI ((6 * lv) + k)) 12, px_vb (nI 8) 9]) rfl rfl (by (try simp only [q19, q20, q21]); exact (px_all (px_vbN (by omega) (by decide)) (px_all (px_vbN (by omega) (by decide)) (px_all (px_vbN (by omega) (by decide)) rfl)))) ?_
      simp only [q19, q20, q21]
      refine XS.vret eX9_looks_185 rfl ?_
      exact ⟨rfl, rfl⟩
    · exfalso
      have g26 : ¬ sl ≤ sl := (fun z => h26 ((nI_leI (a := sl) (b := sl) (by omega) (by omega)).mpr z))
      omega
  · intro i hi ihi
    have q22 : (v 18) = (nI lv) := hlv
    have q23 : (nI lv).toNatClampNeg = lv := nI_clamp (by omega)
    have q24 : ((a 24) lv) = (nI sl) := hsl
    refine XG.blk tX9_looks_ok 11 6 (pc' := 26) (pl' := [some (.ref 0), some (.int (nI k)), some (.int (nI ((6 * lv) + k))), some (.int (itN (bsF (a 55) (a 35 lv) k) 0 i)), some (.int (nI i))]) (st' := [(.int ((a 24) (v 18).toNatClampNeg)), (.int (nI i))]) (W1 := (mW v a b)) (bs := [px_vb (v 18) 2]) rfl rfl (by (try simp only [q22, q23, q24]); exact (px_all (px_vbN (by omega) (by decide)) rfl)) ?_
    simp only [q22, q23, q24]
    refine XG.br eX9_looks_26 (P := (nI sl) ≤ (nI i)) (r := []) rfl (tgt := 75) (by decide) (fun h26 => ?_) (fun h26 => ?_)
    · exfalso
      have g26 : sl ≤ i := (nI_leI (a := sl) (b := i) (by omega) (by omega)).mp h26
      omega
    · skip
      have g26 : ¬ sl ≤ i := (fun z => h26 ((nI_leI (a := sl) (b := i) (by omega) (by omega)).mpr z))
      refine XG.blk tX9_looks_ok 18 2 (pc' := 32) (pl' := [some (.ref 0), some (.int (nI k)), some (.int (nI ((6 * lv) + k))), some (.int (itN (bsF (a 55) (a 35 lv) k) 0 i)), some (.int (nI i))]) (st' := [(.int (nI k)), (.int (nI i))]) (W1 := (mW v a b)) (bs := []) rfl rfl rfl ?_
      refine XG.br eX9_looks_32 (P := (nI i) = (nI k)) (r := []) rfl (tgt := 69) (by decide) (fun h32 => ?_) (fun h32 => ?_)
      · skip
        have g32 : i = k := (nI_eq (a := i) (b := k) (by omega) (by omega)).mp h32
        have q25 : ((nI i) + (nI 1)) = (nI (i + 1)) := px_eadd rfl rfl
        refine XG.blk tX9_looks_ok 39 1 (pc' := 72) (pl' := [some (.ref 0), some (.int (nI k)), some (.int (nI ((6 * lv) + k))), some (.int (itN (bsF (a 55) (a 35 lv) k) 0 i)), some (.int ((nI i) + (nI 1)))]) (st' := []) (W1 := (mW v a b)) (bs := []) rfl rfl rfl ?_
        simp only [q25]
        refine XG.goto eX9_looks_72 (tgt := 15) (by decide) ?_
        rw [show (itN (bsF (a 55) (a 35 lv) k) 0 (i + 1)) = (itN (bsF (a 55) (a 35 lv) k) 0 i) from if_neg (fun hc => hc.1 g32)] at ihi; exact ihi
      · skip
        have g32 : ¬ i = k := (fun z => h32 ((nI_eq (a := i) (b := k) (by omega) (by omega)).mpr z))
        refine XG.blk tX9_looks_ok 21 2 (pc' := 38) (pl' := [some (.ref 0), some (.int (nI k)), some (.int (nI ((6 * lv) + k))), some (.int (itN (bsF (a 55) (a 35 lv) k) 0 i)), some (.int (nI i))]) (st' := [(.int (nI i)), (.ref 0)]) (W1 := (mW v a b)) (bs := []) rfl rfl rfl ?_
        refine XG.callV0 eX9_looks_38 kl_X9_348 (con_isAsleep (d - 1) v a b i (by omega) _ _ _ _ I) (px_fitS (by omega)) rfl rfl rfl (Nat.le_of_ble_eq_true rfl) (fun r9 W9 hp9 hl9 => ?_)
        obtain ⟨rfl, rfl⟩ := hp9
        refine XG.br eX9_looks_41 (P := (if slp (a 55) ((a 35) lv) i then 1 else 0) = 0) (r := []) rfl (tgt := 69) (by decide) (fun h41 => ?_) (fun h41 => ?_)
        · skip
          have q26 : ((nI i) + (nI 1)) = (nI (i + 1)) := px_eadd rfl rfl
          refine XG.blk tX9_looks_ok 39 1 (pc' := 72) (pl' := [some (.ref 0), some (.int (nI k)), some (.int (nI ((6 * lv) + k))), some (.int (itN (bsF (a 55) (a 35 lv) k) 0 i)), some (.int ((nI i) + (nI 1)))]) (st' := []) (W1 := (mW v a b)) (bs := []) rfl rfl rfl ?_
          simp only [q26]
          refine XG.goto eX9_looks_72 (tgt := 15) (by decide) ?_
          rw [show (itN (bsF (a 55) (a 35 lv) k) 0 (i + 1)) = (itN (bsF (a 55) (a 35 lv) k) 0 i) from if_neg (fun hc => (one_ne.mp h41) hc.2.1)] at ihi; exact ihi
        · skip
          have q27 : ((nI 12) + (nI i)) = (nI (12 + i)) := px_eadd rfl rfl
          have q28 : (nI (12 + i)).toNatClampNeg = (12 + i) := nI_clamp (by omega)
          have q29 : ((nI 12) + (nI k)) = (nI (12 + k)) := px_eadd rfl rfl
          have q30 : (nI (12 + k)).toNatClampNeg = (12 + k) := nI_clamp (by omega)
          refine XG.blk tX9_looks_ok 25 12 (pc' := 63) (pl' := [some (.ref 0), some (.int (nI k)), some (.int (nI ((6 * lv) + k))), some (.int (itN (bsF (a 55) (a 35 lv) k) 0 i)), some (.int (nI i))]) (st' := [(.int ((a 55) ((nI 12) + (nI k)).toNatClampNeg)), (.int ((a 55) ((nI 12) + (nI i)).toNatClampNeg))]) (W1 := (mW v a b)) (bs := [px_vb ((nI 12) + (nI i)) 32, px_vb ((nI 12) + (nI k)) 32]) rfl rfl (by (try simp only [q27, q28, q29, q30]); exact (px_all (px_vbN (by omega) (by decide)) (px_all (px_vbN (by omega) (by decide)) rfl))) ?_
          simp only [q27, q28, q29, q30]
          refine XG.br eX9_looks_63 (P := ¬ ((a 55) (12 + i)) = ((a 55) (12 + k))) (r := []) rfl (tgt := 69) (by decide) (fun h63 => ?_) (fun h63 => ?_)
          · skip
            have q31 : ((nI i) + (nI 1)) = (nI (i + 1)) := px_eadd rfl rfl
            refine XG.blk tX9_looks_ok 39 1 (pc' := 72) (pl' := [some (.ref 0), some (.int (nI k)), some (.int (nI ((6 * lv) + k))), some (.int (itN (bsF (a 55) (a 35 lv) k) 0 i)), some (.int ((nI i) + (nI 1)))]) (st' := []) (W1 := (mW v a b)) (bs := []) rfl rfl rfl ?_
            simp only [q31]
            refine XG.goto eX9_looks_72 (tgt := 15) (by decide) ?_
            rw [show (itN (bsF (a 55) (a 35 lv) k) 0 (i + 1)) = (itN (bsF (a 55) (a 35 lv) k) 0 i) from if_neg (fun hc => h63 hc.2.2)] at ihi; exact ihi
          · skip
            have h63 := Decidable.not_not.mp h63
            have q32 : ((nI i) + (nI 1)) = (nI (i + 1)) := px_eadd rfl rfl
            refine XG.blk tX9_looks_ok 38 2 (pc' := 72) (pl' := [some (.ref 0), some (.int (nI k)), some (.int (nI ((6 * lv) + k))), some (.int ((itN (bsF (a 55) (a 35 lv) k) 0 i) + (nI 1))), some (.int ((nI i) + (nI 1)))]) (st' := []) (W1 := (mW v a b)) (bs := []) rfl rfl rfl ?_
            simp only [q32]
            refine XG.goto eX9_looks_72 (tgt := 15) (by decide) ?_
            rw [show (itN (bsF (a 55) (a 35 lv) k) 0 (i + 1)) = (itN (bsF (a 55) (a 35 lv) k) 0 i) + nI 1 from if_pos ⟨g32, Decidable.not_not.mp (fun z => h41 (one_ne.mpr z)), h63⟩] at ihi; exact ihi
