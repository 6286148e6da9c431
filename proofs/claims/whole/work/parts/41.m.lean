/-! the reference: an hour goes by -/
def wasV (r : Nat → Int32) (c : Nat) : Int32 := if r (18 + c) = -3 then -1 else r (18 + c)
def waF (r : Nat → Int32) : Nat → (Nat → Int32) → (Nat → Int32) := fun c f => upd f c (wasV r c)
theorem waF_at (r w : Nat → Int32) : ∀ n c, c < n → itN (waF r) w n c = wasV r c := by
  intro n
  induction n with
  | zero => intro c h; omega
  | succ n ih =>
    intro c h
    show upd (itN (waF r) w n) n (wasV r n) c = _
    simp only [upd]
    by_cases e : c = n
    · rw [if_pos e, e]
    · rw [if_neg e]; exact ih c (by omega)
def fallF (p : Nat) : Nat → (Nat → Int32) → (Nat → Int32) := fun c r => if r (18 + c) = nI p then upd r (18 + c) (nI 10) else r
def brkF (a0 : Nat → Nat → Int32) (lv sl cr : Nat) : Nat → (Nat → Int32) → (Nat → Int32) := fun p r => if bR a0 lv sl cr r (nI p) < itN (loadF r (a0 32) lv (nI p)) 0 cr then itN (fallF p) r cr else r
def pD (sp i : Nat) : Int32 := Int32.ofInt ((sp : Int) - 1 - i)
theorem pD_0 {sp : Nat} (h : 1 ≤ sp) : pD sp 0 = nI (sp - 1) := by
  unfold pD nI
  rw [show ((sp : Int) - 1 - ((0 : Nat) : Int)) = ((sp - 1 : Nat) : Int) by omega]
  rfl
theorem pD_toInt {sp i : Nat} (h1 : sp ≤ 5) (h2 : i ≤ 10) : (pD sp i).toInt = (sp : Int) - 1 - i := by
  unfold pD
  rw [Int32.toInt_ofInt_of_le (by omega) (by omega)]
theorem pD_s {sp i : Nat} (h1 : sp ≤ 5) (h2 : i ≤ 9) : pD sp i + (-1) = pD sp (i + 1) := by
  unfold pD
  rw [show (-1 : Int32) = Int32.ofInt (-1) from rfl, ← Int32.ofInt_add]
  congr 1
  omega
theorem pD_lt {sp i : Nat} (h1 : sp ≤ 5) (h2 : i ≤ 9) : pD sp i < -1 ↔ sp < i := by
  rw [Int32.lt_iff_toInt_lt, pD_toInt h1 (by omega), show (-1 : Int32).toInt = -1 from rfl]
  omega
def moveF (a0 : Nat → Nat → Int32) (lv sp sl cr : Nat) (r0 : Nat → Int32) (p : Int32) : Nat → (Nat → Int32) → (Nat → Int32) := fun c r => if wasV r0 c = p ∧ ¬ r (18 + c) = nI 10 then crossF a0 lv sp sl cr c (wasV r0 c) r else r
def outF (a0 : Nat → Nat → Int32) (lv sp sl cr : Nat) (r0 : Nat → Int32) : Nat → (Nat → Int32) → (Nat → Int32) := fun i r => itN (moveF a0 lv sp sl cr r0 (pD sp i)) r cr
/-- the row an hour later -/
def hourF (v0 : Nat → Int32) (a0 : Nat → Nat → Int32) (lv sp sl cr : Nat) (r : Nat → Int32) : Nat → Int32 := itN (outF a0 lv sp sl cr r) (itN (brkF a0 lv sl cr) (sleepF v0 a0 lv sl cr r) sp) (sp + 1)
set_option maxHeartbeats 400000 in
theorem con_hourGoes (d : Nat) (v0 v9 : Nat → Int32) (a0 a9 : Nat → Nat → Int32) (b : Nat → Nat → Int64) (r w : Nat → Int32) (hK9 : K v0 a0 r w v9 a9) (lv sp sl cr : Nat) (I0 : MI v0 a0 lv sp sl cr) (hw3 : wf3 a0 lv) (hd : 7 ≤ d) : Con mX9_hourGoes d [.ref 0] (mW v9 a9 b) (fun q W' => ∃ v' a' w', W' = mW v' a' b ∧ K v0 a0 (hourF v0 a0 lv sp sl cr r) w' v' a' ∧ q = none) := by
  obtain ⟨hlv0, hlv2, hsp, hsp1, hsp2, hsl, hsl2, hcr, hcr2⟩ := id I0
  have hlv9 := (hK9.MI I0).1
  refine Con.of (by decide) (Nat.le_of_ble_eq_true rfl) ?_
  refine XG.blk tX9_hourGoes_ok 0 2 (pc' := 2) (pl' := [some (.ref 0), some (.int (nI 0)), none]) (st' := []) (W1 := (mW v9 a9 b)) (bs := []) rfl rfl rfl ?_
  refine px_for cr (fun i => ∀ (v9 : Nat → Int32) (a9 : Nat → Nat → Int32) (hK9 : K v0 a0 r (itN (waF r) w i) v9 a9), XG mX9_hourGoes _ 0 0 2 [some (.ref 0), some (.int (nI i)), none] [] (mW v9 a9 b)) ?_ ?_ 0 (by omega) v9 a9 hK9
  · intro v9 a9 hK9
    have hlv9 := (hK9.MI I0).1
    have q1 : (v9 18) = (nI lv) := hlv9
    have q2 : (a9 31) = (a0 31) := hK9.2.1 31 (by decide)
    have q3 : (nI lv).toNatClampNeg = lv := nI_clamp (by omega)
    have q4 : ((a0 31) lv) = (nI cr) := hcr
    refine XG.blk tX9_hourGoes_ok 2 6 (pc' := 12) (pl' := [some (.ref 0), some (.int (nI cr)), none]) (st' := [(.int ((a9 31) (v9 18).toNatClampNeg)), (.int (nI cr))]) (W1 := (mW v9 a9 b)) (bs := [px_vb (v9 18) 2]) rfl rfl (by (try simp only [q1, q2, q3, q4]); exact (px_all (px_vbN (by omega) (by decide)) rfl)) ?_
    simp only [q1, q2, q3, q4]
    refine XG.br eX9_hourGoes_12 (P := (nI cr) ≤ (nI cr)) (r := []) rfl (tgt := 54) (by decide) (fun h12 => ?_) (fun h12 => ?_)
    · skip
      have g12 : cr ≤ cr := (nI_leI (a := cr) (b := cr) (by omega) (by omega)).mp h12
      refine XG.blk tX9_hourGoes_ok 31 1 (pc' := 55) (pl' := [some (.ref 0), some (.int (nI cr)), none]) (st' := [(.ref 0)]) (W1 := (mW v9 a9 b)) (bs := []) rfl rfl rfl ?_
      refine XG.callV0 eX9_hourGoes_55 kl_X9_388 (con_sleepsOn (d - 1) v0 v9 a0 a9 b r _ hK9 lv sp sl cr I0 hw3 (by omega)) (px_fitS (by omega)) rfl rfl rfl (Nat.le_of_ble_eq_true rfl) (fun r9 W9 hp9 hl9 => ?_)
      obtain ⟨v21, a21, rfl, hK21, rfl⟩ := hp9
      have hlv21 := (hK21.MI I0).1
      refine XG.blk tX9_hourGoes_ok 33 2 (pc' := 60) (pl' := [some (.ref 0), some (.int (nI 0)), none]) (st' := []) (W1 := (mW v21 a21 b)) (bs := []) rfl rfl rfl ?_
      refine px_for sp (fun p => ∀ (v9 : Nat → Int32) (a9 : Nat → Nat → Int32) (hK9 : K v0 a0 (itN (brkF a0 lv sl cr) (sleepF v0 a0 lv sl cr r) p) (itN (waF r) w cr) v9 a9), XG mX9_hourGoes _ 0 0 60 [some (.ref 0), some (.int (nI p)), none] [] (mW v9 a9 b)) ?_ ?_ 0 (by omega) v21 a21 hK21
      · intro v9 a9 hK9
        have hlv9 := (hK9.MI I0).1
        have q5 : (v9 18) = (nI lv) := hlv9
        have q6 : (a9 23) = (a0 23) := hK9.2.1 23 (by decide)
        have q7 : (nI lv).toNatClampNeg = lv := nI_clamp (by omega)
        have q8 : ((a0 23) lv) = (nI sp) := hsp
        refine XG.blk tX9_hourGoes_ok 35 6 (pc' := 70) (pl' := [some (.ref 0), some (.int (nI sp)), none]) (st' := [(.int ((a9 23) (v9 18).toNatClampNeg)), (.int (nI sp))]) (W1 := (mW v9 a9 b)) (bs := [px_vb (v9 18) 2]) rfl rfl (by (try simp only [q5, q6, q7, q8]); exact (px_all (px_vbN (by omega) (by decide)) rfl)) ?_
        simp only [q5, q6, q7, q8]
        refine XG.br eX9_hourGoes_70 (P := (nI sp) ≤ (nI sp)) (r := []) rfl (tgt := 140) (by decide) (fun h70 => ?_) (fun h70 => ?_)
        · skip
          have g70 : sp ≤ sp := (nI_leI (a := sp) (b := sp) (by omega) (by omega)).mp h70
          have q9 : (v9 18) = (nI lv) := hlv9
          have q10 : (a9 23) = (a0 23) := hK9.2.1 23 (by decide)
          have q11 : (nI lv).toNatClampNeg = lv := nI_clamp (by omega)
          have q12 : ((a0 23) lv) = (nI sp) := hsp
          have q13 : ((nI sp) - (nI 1)) = (nI (sp - 1)) := px_esub rfl rfl (by omega)
          refine XG.blk tX9_hourGoes_ok 78 8 (pc' := 152) (pl' := [some (.ref 0), some (.int (((a9 23) (v9 18).toNatClampNeg) - (nI 1))), none]) (st' := []) (W1 := (mW v9 a9 b)) (bs := [px_vb (v9 18) 2]) rfl rfl (by (try simp only [q9, q10, q11, q12, q13]); exact (px_all (px_vbN (by omega) (by decide)) rfl)) ?_
          simp only [q9, q10, q11, q12, q13]
          rw [← pD_0 hsp1]
          refine px_for (sp + 1) (fun i => ∀ (v9 : Nat → Int32) (a9 : Nat → Nat → Int32) (hK9 : K v0 a0 (itN (outF a0 lv sp sl cr r) (itN (brkF a0 lv sl cr) (sleepF v0 a0 lv sl cr r) sp) i) (itN (waF r) w cr) v9 a9), XG mX9_hourGoes _ 0 0 152 [some (.ref 0), some (.int (pD sp i)), none] [] (mW v9 a9 b)) ?_ ?_ 0 (by omega) v9 a9 hK9
          · intro v9 a9 hK9
            have hlv9 := (hK9.MI I0).1
            refine XG.blk tX9_hourGoes_ok 86 2 (pc' := 154) (pl' := [some (.ref 0), some (.int (pD sp (sp + 1))), none]) (st' := [(.int (-1)), (.int (pD sp (sp + 1)))]) (W1 := (mW v9 a9 b)) (bs := []) rfl rfl rfl ?_
            refine XG.br eX9_hourGoes_154 (P := (pD sp (sp + 1)) < (-1)) (r := []) rfl (tgt := 216) (by decide) (fun h154 => ?_) (fun h154 => ?_)
            · skip
              refine XS.vret eX9_hourGoes_216 rfl ?_
              exact ⟨_, _, _, rfl, hK9, rfl⟩
            · exfalso
              first | exact h154 ((pD_lt hsp2 (by omega)).mpr (by omega)) | (have := (pD_lt hsp2 (by omega)).mp h154; omega)
          · intro i hi ihi v9 a9 hK9
            have hlv9 := (hK9.MI I0).1
            refine XG.blk tX9_hourGoes_ok 86 2 (pc' := 154) (pl' := [some (.ref 0), some (.int (pD sp i)), none]) (st' := [(.int (-1)), (.int (pD sp i))]) (W1 := (mW v9 a9 b)) (bs := []) rfl rfl rfl ?_
            refine XG.br eX9_hourGoes_154 (P := (pD sp i) < (-1)) (r := []) rfl (tgt := 216) (by decide) (fun h154 => ?_) (fun h154 => ?_)
            · exfalso
              first | exact h154 ((pD_lt hsp2 (by omega)).mpr (by omega)) | (have := (pD_lt hsp2 (by omega)).mp h154; omega)
            · skip
              refine XG.blk tX9_hourGoes_ok 89 2 (pc' := 159) (pl' := [some (.ref 0), some (.int (pD sp i)), some (.int (nI 0))]) (st' := []) (W1 := (mW v9 a9 b)) (bs := []) rfl rfl rfl ?_
              refine px_for cr (fun c => ∀ (v9 : Nat → Int32) (a9 : Nat → Nat → Int32) (hK9 : K v0 a0 (itN (moveF a0 lv sp sl cr r (pD sp i)) (itN (outF a0 lv sp sl cr r) (itN (brkF a0 lv sl cr) (sleepF v0 a0 lv sl cr r) sp) i) c) (itN (waF r) w cr) v9 a9), XG mX9_hourGoes _ 0 0 159 [some (.ref 0), some (.int (pD sp i)), some (.int (nI c))] [] (mW v9 a9 b)) ?_ ?_ 0 (by omega) v9 a9 hK9
              · intro v9 a9 hK9
                have hlv9 := (hK9.MI I0).1
                have q14 : (v9 18) = (nI lv) := hlv9
                have q15 : (a9 31) = (a0 31) := hK9.2.1 31 (by decide)
                have q16 : (nI lv).toNatClampNeg = lv := nI_clamp (by omega)
                have q17 : ((a0 31) lv) = (nI cr) := hcr
                refine XG.blk tX9_hourGoes_ok 91 6 (pc' := 169) (pl' := [some (.ref 0), some (.int (pD sp i)), some (.int (nI cr))]) (st' := [(.int ((a9 31) (v9 18).toNatClampNeg)), (.int (nI cr))]) (W1 := (mW v9 a9 b)) (bs := [px_vb (v9 18) 2]) rfl rfl (by (try simp only [q14, q15, q16, q17]); exact (px_all (px_vbN (by omega) (by decide)) rfl)) ?_
                simp only [q14, q15, q16, q17]
                refine XG.br eX9_hourGoes_169 (P := (nI cr) ≤ (nI cr)) (r := []) rfl (tgt := 210) (by decide) (fun h169 => ?_) (fun h169 => ?_)
                · skip
                  have g169 : cr ≤ cr := (nI_leI (a := cr) (b := cr) (by omega) (by omega)).mp h169
                  refine XG.blk tX9_hourGoes_ok 118 1 (pc' := 213) (pl' := [some (.ref 0), some (.int ((pD sp i) + (-1))), some (.int (nI cr))]) (st' := []) (W1 := (mW v9 a9 b)) (bs := []) rfl rfl rfl ?_
                  refine XG.goto eX9_hourGoes_213 (tgt := 152) (by decide) ?_
                  rw [pD_s hsp2 (by omega)]
                  refine XG.weak (pl' := [some (.ref 0), some (.int (pD sp (i + 1))), none]) ⟨rfl, rfl, trivial⟩ ?_
                  exact ihi v9 a9 hK9
                · exfalso
                  have g169 : ¬ cr ≤ cr := (fun z => h169 ((nI_leI (a := cr) (b := cr) (by omega) (by omega)).mpr z))
                  omega
              · intro c hc ihc v9 a9 hK9
                have hlv9 := (hK9.MI I0).1
                have q18 : (v9 18) = (nI lv) := hlv9
                have q19 : (a9 31) = (a0 31) := hK9.2.1 31 (by decide)
                have q20 : (nI lv).toNatClampNeg = lv := nI_clamp (by omega)
                have q21 : ((a0 31) lv) = (nI cr) := hcr
                refine XG.blk tX9_hourGoes_ok 91 6 (pc' := 169) (pl' := [some (.ref 0), some (.int (pD sp i)), some (.int (nI c))]) (st' := [(.int ((a9 31) (v9 18).toNatClampNeg)), (.int (nI c))]) (W1 := (mW v9 a9 b)) (bs := [px_vb (v9 18) 2]) rfl rfl (by (try simp only [q18, q19, q20, q21]); exact (px_all (px_vbN (by omega) (by decide)) rfl)) ?_
                simp only [q18, q19, q20, q21]
                refine XG.br eX9_hourGoes_169 (P := (nI cr) ≤ (nI c)) (r := []) rfl (tgt := 210) (by decide) (fun h169 => ?_) (fun h169 => ?_)
                · exfalso
                  have g169 : cr ≤ c := (nI_leI (a := cr) (b := c) (by omega) (by omega)).mp h169
                  omega
                · skip
                  have g169 : ¬ cr ≤ c := (fun z => h169 ((nI_leI (a := cr) (b := c) (by omega) (by omega)).mpr z))
                  have q22 : (a9 60) = (itN (waF r) w cr) := hK9.2.2.2
                  have q23 : (nI c).toNatClampNeg = c := nI_clamp (by omega)
                  have q24 : ((itN (waF r) w cr) c) = (wasV r c) := waF_at r w cr c (by omega)
                  refine XG.blk tX9_hourGoes_ok 98 5 (pc' := 179) (pl' := [some (.ref 0), some (.int (pD sp i)), some (.int (nI c))]) (st' := [(.int (pD sp i)), (.int ((a9 60) (nI c).toNatClampNeg))]) (W1 := (mW v9 a9 b)) (bs := [px_vb (nI c) 5]) rfl rfl (by (try simp only [q22, q23, q24]); exact (px_all (px_vbN (by omega) (by decide)) rfl)) ?_
                  simp only [q22, q23, q24]
                  refine XG.br eX9_hourGoes_179 (P := ¬ (wasV r c) = (pD sp i)) (r := []) rfl (tgt := 204) (by decide) (fun h179 => ?_) (fun h179 => ?_)
                  · skip
                    have q25 : ((nI c) + (nI 1)) = (nI (c + 1)) := px_eadd rfl rfl
                    refine XG.blk tX9_hourGoes_ok 116 1 (pc' := 207) (pl' := [some (.ref 0), some (.int (pD sp i)), some (.int ((nI c) + (nI 1)))]) (st' := []) (W1 := (mW v9 a9 b)) (bs := []) rfl rfl rfl ?_
                    simp only [q25]
                    refine XG.goto eX9_hourGoes_207 (tgt := 159) (by decide) ?_
                    rw [show (itN (moveF a0 lv sp sl cr r (pD sp i)) (itN (outF a0 lv sp sl cr r) (itN (brkF a0 lv sl cr) (sleepF v0 a0 lv sl cr r) sp) i) (c + 1)) = (itN (moveF a0 lv sp sl cr r (pD sp i)) (itN (outF a0 lv sp sl cr r) (itN (brkF a0 lv sl cr) (sleepF v0 a0 lv sl cr r) sp) i) c) from if_neg (fun hc => h179 hc.1)] at ihc
                    exact ihc v9 a9 hK9
                  · skip
                    have h179 := Decidable.not_not.mp h179
                    have q26 : ((nI 18) + (nI c)) = (nI (18 + c)) := px_eadd rfl rfl
                    have q27 : (a9 55) = (itN (moveF a0 lv sp sl cr r (pD sp i)) (itN (outF a0 lv sp sl cr r) (itN (brkF a0 lv sl cr) (sleepF v0 a0 lv sl cr r) sp) i) c) := hK9.2.2.1
                    have q28 : (nI (18 + c)).toNatClampNeg = (18 + c) := nI_clamp (by omega)
                    refine XG.blk tX9_hourGoes_ok 104 7 (pc' := 193) (pl' := [some (.ref 0), some (.int (pD sp i)), some (.int (nI c))]) (st' := [(.int (nI 10)), (.int ((a9 55) ((nI 18) + (nI c)).toNatClampNeg))]) (W1 := (mW v9 a9 b)) (bs := [px_vb ((nI 18) + (nI c)) 32]) rfl rfl (by (try simp only [q26, q27, q28]); exact (px_all (px_vbN (by omega) (by decide)) rfl)) ?_
                    simp only [q26, q27, q28]
                    refine XG.br eX9_hourGoes_193 (P := ¬ ((itN (moveF a0 lv sp sl cr r (pD sp i)) (itN (outF a0 lv sp sl cr r) (itN (brkF a0 lv sl cr) (sleepF v0 a0 lv sl cr r) sp) i) c) (18 + c)) = (nI 10)) (r := []) rfl (tgt := 199) (by decide) (fun h193 => ?_) (fun h193 => ?_)
                    · skip
                      refine XG.blk tX9_hourGoes_ok 113 2 (pc' := 201) (pl' := [some (.ref 0), some (.int (pD sp i)), some (.int (nI c))]) (st' := [(.int (nI c)), (.ref 0)]) (W1 := (mW v9 a9 b)) (bs := []) rfl rfl rfl ?_
                      refine XG.callV0 eX9_hourGoes_201 kl_X9_391 (con_crosses (d - 1) v0 v9 a0 a9 b (itN (moveF a0 lv sp sl cr r (pD sp i)) (itN (outF a0 lv sp sl cr r) (itN (brkF a0 lv sl cr) (sleepF v0 a0 lv sl cr r) sp) i) c) _ hK9 lv sp sl cr I0 hw3 c (by omega) (by omega)) (px_fitS (by omega)) rfl rfl rfl (Nat.le_of_ble_eq_true rfl) (fun r9 W9 hp9 hl9 => ?_)
                      obtain ⟨v22, a22, rfl, hK22, rfl⟩ := hp9
                      rw [waF_at r w cr c (by omega)] at hK22
                      have hlv22 := (hK22.MI I0).1
                      have q29 : ((nI c) + (nI 1)) = (nI (c + 1)) := px_eadd rfl rfl
                      refine XG.blk tX9_hourGoes_ok 116 1 (pc' := 207) (pl' := [some (.ref 0), some (.int (pD sp i)), some (.int ((nI c) + (nI 1)))]) (st' := []) (W1 := (mW v22 a22 b)) (bs := []) rfl rfl rfl ?_
                      simp only [q29]
                      refine XG.goto eX9_hourGoes_207 (tgt := 159) (by decide) ?_
                      rw [show (itN (moveF a0 lv sp sl cr r (pD sp i)) (itN (outF a0 lv sp sl cr r) (itN (brkF a0 lv sl cr) (sleepF v0 a0 lv sl cr r) sp) i) (c + 1)) = (crossF a0 lv sp sl cr c (wasV r c) (itN (moveF a0 lv sp sl cr r (pD sp i)) (itN (outF a0 lv sp sl cr r) (itN (brkF a0 lv sl cr) (sleepF v0 a0 lv sl cr r) sp) i) c)) from if_pos ⟨h179, h193⟩] at ihc
                      exact ihc v22 a22 hK22
                    · skip
                      have h193 := Decidable.not_not.mp h193
                      refine XG.goto eX9_hourGoes_196 (tgt := 204) (by decide) ?_
                      have q30 : ((nI c) + (nI 1)) = (nI (c + 1)) := px_eadd rfl rfl
                      refine XG.blk tX9_hourGoes_ok 116 1 (pc' := 207) (pl' := [some (.ref 0), some (.int (pD sp i)), some (.int ((nI c) + (nI 1)))]) (st' := []) (W1 := (mW v9 a9 b)) (bs := []) rfl rfl rfl ?_
                      simp only [q30]
                      refine XG.goto eX9_hourGoes_207 (tgt := 159) (by decide) ?_
                      rw [show (itN (moveF a0 lv sp sl cr r (pD sp i)) (itN (outF a0 lv sp sl cr r) (itN (brkF a0 lv sl cr) (sleepF v0 a0 lv sl cr r) sp) i) (c + 1)) = (itN (moveF a0 lv sp sl cr r (pD sp i)) (itN (outF a0 lv sp sl cr r) (itN (brkF a0 lv sl cr) (sleepF v0 a0 lv sl cr r) sp) i) c) from if_neg (fun hc => hc.2 h193)] at ihc
                      exact ihc v9 a9 hK9
        · exfalso
          have g70 : ¬ sp ≤ sp := (fun z => h70 ((nI_leI (a := sp) (b := sp) (by omega) (by omega)).mpr z))
          omega
      · intro p hp ihp v9 a9 hK9
        have hlv9 := (hK9.MI I0).1
        have q31 : (v9 18) = (nI lv) := hlv9
        have q32 : (a9 23) = (a0 23) := hK9.2.1 23 (by decide)
        have q33 : (nI lv).toNatClampNeg = lv := nI_clamp (by omega)
        have q34 : ((a0 23) lv) = (nI sp) := hsp
        refine XG.blk tX9_hourGoes_ok 35 6 (pc' := 70) (pl' := [some (.ref 0), some (.int (nI p)), none]) (st' := [(.int ((a9 23) (v9 18).toNatClampNeg)), (.int (nI p))]) (W1 := (mW v9 a9 b)) (bs := [px_vb (v9 18) 2]) rfl rfl (by (try simp only [q31, q32, q33, q34]); exact (px_all (px_vbN (by omega) (by decide)) rfl)) ?_
        simp only [q31, q32, q33, q34]
        refine XG.br eX9_hourGoes_70 (P := (nI sp) ≤ (nI p)) (r := []) rfl (tgt := 140) (by decide) (fun h70 => ?_) (fun h70 => ?_)
        · exfalso
          have g70 : sp ≤ p := (nI_leI (a := sp) (b := p) (by omega) (by omega)).mp h70
          omega
        · skip
          have g70 : ¬ sp ≤ p := (fun z => h70 ((nI_leI (a := sp) (b := p) (by omega) (by omega)).mpr z))
          refine XG.blk tX9_hourGoes_ok 42 2 (pc' := 75) (pl' := [some (.ref 0), some (.int (nI p)), none]) (st' := [(.int (nI p)), (.ref 0)]) (W1 := (mW v9 a9 b)) (bs := []) rfl rfl rfl ?_
          refine XG.callV0 eX9_hourGoes_75 kl_X9_354 (con_lK (d - 1) v0 v9 a0 a9 b (itN (brkF a0 lv sl cr) (sleepF v0 a0 lv sl cr r) p) _ hK9 lv sp sl cr I0 (nI p)) (px_fitS (by omega)) rfl rfl rfl (Nat.le_of_ble_eq_true rfl) (fun r9 W9 hp9 hl9 => ?_)
          obtain ⟨rfl, rfl⟩ := hp9
          refine XG.blk tX9_hourGoes_ok 45 2 (pc' := 80) (pl' := [some (.ref 0), some (.int (nI p)), none]) (st' := [(.int (nI p)), (.ref 0), (.int (itN (loadF (itN (brkF a0 lv sl cr) (sleepF v0 a0 lv sl cr r) p) (a0 32) lv (nI p)) 0 cr))]) (W1 := (mW v9 a9 b)) (bs := []) rfl rfl rfl ?_
          refine XG.callV0 eX9_hourGoes_80 kl_X9_379 (con_bK (d - 1) v0 v9 a0 a9 b (itN (brkF a0 lv sl cr) (sleepF v0 a0 lv sl cr r) p) _ hK9 lv sp sl cr I0 hw3 (nI p) (by omega)) (px_fitS (by omega)) rfl rfl rfl (Nat.le_of_ble_eq_true rfl) (fun r9 W9 hp9 hl9 => ?_)
          obtain ⟨v23, a23, rfl, hj23, rfl⟩ := hp9
          have hK23 := K.J hK9 hj23
          have hlv23 := (hK23.MI I0).1
          refine XG.br eX9_hourGoes_83 (P := (bR a0 lv sl cr (itN (brkF a0 lv sl cr) (sleepF v0 a0 lv sl cr r) p) (nI p)) < (itN (loadF (itN (brkF a0 lv sl cr) (sleepF v0 a0 lv sl cr r) p) (a0 32) lv (nI p)) 0 cr)) (r := []) rfl (tgt := 89) (by decide) (fun h83 => ?_) (fun h83 => ?_)
          · skip
            refine XG.blk tX9_hourGoes_ok 50 2 (pc' := 91) (pl' := [some (.ref 0), some (.int (nI p)), some (.int (nI 0))]) (st' := []) (W1 := (mW v23 a23 b)) (bs := []) rfl rfl rfl ?_
            refine px_for cr (fun c => ∀ (v9 : Nat → Int32) (a9 : Nat → Nat → Int32) (hK9 : K v0 a0 (itN (fallF p) (itN (brkF a0 lv sl cr) (sleepF v0 a0 lv sl cr r) p) c) (itN (waF r) w cr) v9 a9), XG mX9_hourGoes _ 0 0 91 [some (.ref 0), some (.int (nI p)), some (.int (nI c))] [] (mW v9 a9 b)) ?_ ?_ 0 (by omega) v23 a23 hK23
            · intro v9 a9 hK9
              have hlv9 := (hK9.MI I0).1
              have q35 : (v9 18) = (nI lv) := hlv9
              have q36 : (a9 31) = (a0 31) := hK9.2.1 31 (by decide)
              have q37 : (nI lv).toNatClampNeg = lv := nI_clamp (by omega)
              have q38 : ((a0 31) lv) = (nI cr) := hcr
              refine XG.blk tX9_hourGoes_ok 52 6 (pc' := 101) (pl' := [some (.ref 0), some (.int (nI p)), some (.int (nI cr))]) (st' := [(.int ((a9 31) (v9 18).toNatClampNeg)), (.int (nI cr))]) (W1 := (mW v9 a9 b)) (bs := [px_vb (v9 18) 2]) rfl rfl (by (try simp only [q35, q36, q37, q38]); exact (px_all (px_vbN (by omega) (by decide)) rfl)) ?_
              simp only [q35, q36, q37, q38]
              refine XG.br eX9_hourGoes_101 (P := (nI cr) ≤ (nI cr)) (r := []) rfl (tgt := 134) (by decide) (fun h101 => ?_) (fun h101 => ?_)
              · skip
                have g101 : cr ≤ cr := (nI_leI (a := cr) (b := cr) (by omega) (by omega)).mp h101
                have q39 : ((nI p) + (nI 1)) = (nI (p + 1)) := px_eadd rfl rfl
                refine XG.blk tX9_hourGoes_ok 76 1 (pc' := 137) (pl' := [some (.ref 0), some (.int ((nI p) + (nI 1))), some (.int (nI cr))]) (st' := []) (W1 := (mW v9 a9 b)) (bs := []) rfl rfl rfl ?_
                simp only [q39]
                refine XG.goto eX9_hourGoes_137 (tgt := 60) (by decide) ?_
                rw [show (itN (brkF a0 lv sl cr) (sleepF v0 a0 lv sl cr r) (p + 1)) = (itN (fallF p) (itN (brkF a0 lv sl cr) (sleepF v0 a0 lv sl cr r) p) cr) from if_pos h83] at ihp
                refine XG.weak (pl' := [some (.ref 0), some (.int (nI (p + 1))), none]) ⟨rfl, rfl, trivial⟩ ?_
                exact ihp v9 a9 hK9
              · exfalso
                have g101 : ¬ cr ≤ cr := (fun z => h101 ((nI_leI (a := cr) (b := cr) (by omega) (by omega)).mpr z))
                omega
            · intro c hc ihc v9 a9 hK9
              have hlv9 := (hK9.MI I0).1
              have q40 : (v9 18) = (nI lv) := hlv9
              have q41 : (a9 31) = (a0 31) := hK9.2.1 31 (by decide)
              have q42 : (nI lv).toNatClampNeg = lv := nI_clamp (by omega)
              have q43 : ((a0 31) lv) = (nI cr) := hcr
              refine XG.blk tX9_hourGoes_ok 52 6 (pc' := 101) (pl' := [some (.ref 0), some (.int (nI p)), some (.int (nI c))]) (st' := [(.int ((a9 31) (v9 18).toNatClampNeg)), (.int (nI c))]) (W1 := (mW v9 a9 b)) (bs := [px_vb (v9 18) 2]) rfl rfl (by (try simp only [q40, q41, q42, q43]); exact (px_all (px_vbN (by omega) (by decide)) rfl)) ?_
              simp only [q40, q41, q42, q43]
              refine XG.br eX9_hourGoes_101 (P := (nI cr) ≤ (nI c)) (r := []) rfl (tgt := 134) (by decide) (fun h101 => ?_) (fun h101 => ?_)
              · exfalso
                have g101 : cr ≤ c := (nI_leI (a := cr) (b := c) (by omega) (by omega)).mp h101
                omega
              · skip
                have g101 : ¬ cr ≤ c := (fun z => h101 ((nI_leI (a := cr) (b := c) (by omega) (by omega)).mpr z))
                have q44 : ((nI 18) + (nI c)) = (nI (18 + c)) := px_eadd rfl rfl
                have q45 : (a9 55) = (itN (fallF p) (itN (brkF a0 lv sl cr) (sleepF v0 a0 lv sl cr r) p) c) := hK9.2.2.1
                have q46 : (nI (18 + c)).toNatClampNeg = (18 + c) := nI_clamp (by omega)
                refine XG.blk tX9_hourGoes_ok 59 7 (pc' := 114) (pl' := [some (.ref 0), some (.int (nI p)), some (.int (nI c))]) (st' := [(.int (nI p)), (.int ((a9 55) ((nI 18) + (nI c)).toNatClampNeg))]) (W1 := (mW v9 a9 b)) (bs := [px_vb ((nI 18) + (nI c)) 32]) rfl rfl (by (try simp only [q44, q45, q46]); exact (px_all (px_vbN (by omega) (by decide)) rfl)) ?_
                simp only [q44, q45, q46]
                refine XG.br eX9_hourGoes_114 (P := ¬ ((itN (fallF p) (itN (brkF a0 lv sl cr) (sleepF v0 a0 lv sl cr r) p) c) (18 + c)) = (nI p)) (r := []) rfl (tgt := 128) (by decide) (fun h114 => ?_) (fun h114 => ?_)
                · skip
                  have q47 : ((nI c) + (nI 1)) = (nI (c + 1)) := px_eadd rfl rfl
                  refine XG.blk tX9_hourGoes_ok 74 1 (pc' := 131) (pl' := [some (.ref 0), some (.int (nI p)), some (.int ((nI c) + (nI 1)))]) (st' := []) (W1 := (mW v9 a9 b)) (bs := []) rfl rfl rfl ?_
                  simp only [q47]
                  refine XG.goto eX9_hourGoes_131 (tgt := 91) (by decide) ?_
                  rw [show (itN (fallF p) (itN (brkF a0 lv sl cr) (sleepF v0 a0 lv sl cr r) p) (c + 1)) = (itN (fallF p) (itN (brkF a0 lv sl cr) (sleepF v0 a0 lv sl cr r) p) c) from if_neg h114] at ihc
                  exact ihc v9 a9 hK9
                · skip
                  have h114 := Decidable.not_not.mp h114
                  have q48 : ((nI 18) + (nI c)) = (nI (18 + c)) := px_eadd rfl rfl
                  have q49 : (a9 55) = (itN (fallF p) (itN (brkF a0 lv sl cr) (sleepF v0 a0 lv sl cr r) p) c) := hK9.2.2.1
                  have q50 : (nI (18 + c)).toNatClampNeg = (18 + c) := nI_clamp (by omega)
                  have q51 : ((nI c) + (nI 1)) = (nI (c + 1)) := px_eadd rfl rfl
                  refine XG.blk tX9_hourGoes_ok 67 8 (pc' := 131) (pl' := [some (.ref 0), some (.int (nI p)), some (.int ((nI c) + (nI 1)))]) (st' := []) (W1 := (mW v9 (va_up a9 55 (upd (a9 55) ((nI 18) + (nI c)).toNatClampNeg (nI 10))) b)) (bs := [px_vb ((nI 18) + (nI c)) 32]) rfl rfl (by (try simp only [q48, q49, q50, q51]); exact (px_all (px_vbN (by omega) (by decide)) rfl)) ?_
                  simp only [q48, q49, q50, q51]
                  refine XG.goto eX9_hourGoes_131 (tgt := 91) (by decide) ?_
                  rw [show (itN (fallF p) (itN (brkF a0 lv sl cr) (sleepF v0 a0 lv sl cr r) p) (c + 1)) = (upd (itN (fallF p) (itN (brkF a0 lv sl cr) (sleepF v0 a0 lv sl cr r) p) c) (18 + c) (nI 10)) from if_pos h114] at ihc
                  exact ihc v9 (va_up a9 55 (upd (itN (fallF p) (itN (brkF a0 lv sl cr) (sleepF v0 a0 lv sl cr r) p) c) (18 + c) (nI 10))) (K.row hK9 (upd (itN (fallF p) (itN (brkF a0 lv sl cr) (sleepF v0 a0 lv sl cr r) p) c) (18 + c) (nI 10)))
          · skip
            refine XG.goto eX9_hourGoes_86 (tgt := 134) (by decide) ?_
            have q52 : ((nI p) + (nI 1)) = (nI (p + 1)) := px_eadd rfl rfl
            refine XG.blk tX9_hourGoes_ok 76 1 (pc' := 137) (pl' := [some (.ref 0), some (.int ((nI p) + (nI 1))), none]) (st' := []) (W1 := (mW v23 a23 b)) (bs := []) rfl rfl rfl ?_
            simp only [q52]
            refine XG.goto eX9_hourGoes_137 (tgt := 60) (by decide) ?_
            rw [show (itN (brkF a0 lv sl cr) (sleepF v0 a0 lv sl cr r) (p + 1)) = (itN (brkF a0 lv sl cr) (sleepF v0 a0 lv sl cr r) p) from if_neg h83] at ihp
            refine XG.weak (pl' := [some (.ref 0), some (.int (nI (p + 1))), none]) ⟨rfl, rfl, trivial⟩ ?_
            exact ihp v23 a23 hK23
    · exfalso
      have g12 : ¬ cr ≤ cr := (fun z => h12 ((nI_leI (a := cr) (b := cr) (by omega) (by omega)).mpr z))
      omega
  · intro i hi ihi v9 a9 hK9
    have hlv9 := (hK9.MI I0).1
    have q53 : (v9 18) = (nI lv) := hlv9
    have q54 : (a9 31) = (a0 31) := hK9.2.1 31 (by decide)
    have q55 : (nI lv).toNatClampNeg = lv := nI_clamp (by omega)
    have q56 : ((a0 31) lv) = (nI cr) := hcr
    refine XG.blk tX9_hourGoes_ok 2 6 (pc' := 12) (pl' := [some (.ref 0), some (.int (nI i)), none]) (st' := [(.int ((a9 31) (v9 18).toNatClampNeg)), (.int (nI i))]) (W1 := (mW v9 a9 b)) (bs := [px_vb (v9 18) 2]) rfl rfl (by (try simp only [q53, q54, q55, q56]); exact (px_all (px_vbN (by omega) (by decide)) rfl)) ?_
    simp only [q53, q54, q55, q56]
    refine XG.br eX9_hourGoes_12 (P := (nI cr) ≤ (nI i)) (r := []) rfl (tgt := 54) (by decide) (fun h12 => ?_) (fun h12 => ?_)
    · exfalso
      have g12 : cr ≤ i := (nI_leI (a := cr) (b := i) (by omega) (by omega)).mp h12
      omega
    · skip
      have g12 : ¬ cr ≤ i := (fun z => h12 ((nI_leI (a := cr) (b := i) (by omega) (by omega)).mpr z))
      have q57 : ((nI 18) + (nI i)) = (nI (18 + i)) := px_eadd rfl rfl
      have q58 : (a9 55) = r := hK9.2.2.1
      have q59 : (nI (18 + i)).toNatClampNeg = (18 + i) := nI_clamp (by omega)
      refine XG.blk tX9_hourGoes_ok 9 10 (pc' := 31) (pl' := [some (.ref 0), some (.int (nI i)), none]) (st' := [(.int (-3)), (.int ((a9 55) ((nI 18) + (nI i)).toNatClampNeg)), (.int (nI i)), (.ref 41)]) (W1 := (mW v9 a9 b)) (bs := [px_vb ((nI 18) + (nI i)) 32]) rfl rfl (by (try simp only [q57, q58, q59]); exact (px_all (px_vbN (by omega) (by decide)) rfl)) ?_
      simp only [q57, q58, q59]
      refine XG.br eX9_hourGoes_31 (P := ¬ (r (18 + i)) = (-3)) (r := [(.int (nI i)), (.ref 41)]) rfl (tgt := 38) (by decide) (fun h31 => ?_) (fun h31 => ?_)
      · skip
        have q60 : ((nI 18) + (nI i)) = (nI (18 + i)) := px_eadd rfl rfl
        have q61 : (a9 55) = r := hK9.2.2.1
        have q62 : (nI (18 + i)).toNatClampNeg = (18 + i) := nI_clamp (by omega)
        have q63 : (a9 60) = (itN (waF r) w i) := hK9.2.2.2
        have q64 : (nI i).toNatClampNeg = i := nI_clamp (by omega)
        have q65 : ((nI i) + (nI 1)) = (nI (i + 1)) := px_eadd rfl rfl
        refine XG.blk tX9_hourGoes_ok 22 8 (pc' := 51) (pl' := [some (.ref 0), some (.int ((nI i) + (nI 1))), none]) (st' := []) (W1 := (mW v9 (va_up a9 60 (upd (a9 60) (nI i).toNatClampNeg ((a9 55) ((nI 18) + (nI i)).toNatClampNeg))) b)) (bs := [px_vb ((nI 18) + (nI i)) 32, px_vb (nI i) 5]) rfl rfl (by (try simp only [q60, q61, q62, q63, q64, q65]); exact (px_all (px_vbN (by omega) (by decide)) (px_all (px_vbN (by omega) (by decide)) rfl))) ?_
        simp only [q60, q61, q62, q63, q64, q65]
        refine XG.goto eX9_hourGoes_51 (tgt := 2) (by decide) ?_
        rw [show (itN (waF r) w (i + 1)) = upd (itN (waF r) w i) i (r (18 + i)) from congrArg (upd (itN (waF r) w i) i) (if_neg h31)] at ihi
        exact ihi v9 (va_up a9 60 (upd (itN (waF r) w i) i (r (18 + i)))) (K.was hK9 (upd (itN (waF r) w i) i (r (18 + i))))
      · skip
        have h31 := Decidable.not_not.mp h31
        refine XG.blk tX9_hourGoes_ok 20 1 (pc' := 35) (pl' := [some (.ref 0), some (.int (nI i)), none]) (st' := [(.int (-1)), (.int (nI i)), (.ref 41)]) (W1 := (mW v9 a9 b)) (bs := []) rfl rfl rfl ?_
        refine XG.goto eX9_hourGoes_35 (tgt := 47) (by decide) ?_
        have q66 : (a9 60) = (itN (waF r) w i) := hK9.2.2.2
        have q67 : (nI i).toNatClampNeg = i := nI_clamp (by omega)
        have q68 : ((nI i) + (nI 1)) = (nI (i + 1)) := px_eadd rfl rfl
        refine XG.blk tX9_hourGoes_ok 28 2 (pc' := 51) (pl' := [some (.ref 0), some (.int ((nI i) + (nI 1))), none]) (st' := []) (W1 := (mW v9 (va_up a9 60 (upd (a9 60) (nI i).toNatClampNeg (-1))) b)) (bs := [px_vb (nI i) 5]) rfl rfl (by (try simp only [q66, q67, q68]); exact (px_all (px_vbN (by omega) (by decide)) rfl)) ?_
        simp only [q66, q67, q68]
        refine XG.goto eX9_hourGoes_51 (tgt := 2) (by decide) ?_
        rw [show (itN (waF r) w (i + 1)) = upd (itN (waF r) w i) i (-1) from congrArg (upd (itN (waF r) w i) i) (if_pos h31)] at ihi
        exact ihi v9 (va_up a9 60 (upd (itN (waF r) w i) i (-1))) (K.was hK9 (upd (itN (waF r) w i) i (-1)))
