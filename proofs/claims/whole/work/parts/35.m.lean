/-! the reference: a term, told by codes -/
/-- n codes from c on, over dp numbers on the pile: well formed, one number at the end -/
def wfC (cd ci : Nat → Int32) : Nat → Nat → Nat → Prop
  | 0, _, dp => dp = 1
  | n + 1, c, dp => (cd c = nI 0 ∧ dp < 400 ∧ wfC cd ci n (c + 1) (dp + 1)) ∨ (cd c = nI 1 ∧ dp < 400 ∧ (∃ j, j < 9 ∧ ci c = nI j) ∧ wfC cd ci n (c + 1) (dp + 1)) ∨ (2 ≤ dp ∧ dp ≤ 400 ∧ (cd c = nI 2 ∨ cd c = nI 3 ∨ cd c = nI 4 ∨ cd c = nI 5) ∧ wfC cd ci n (c + 1) (dp - 1))
def opF (k x y : Int32) : Int32 := if k = nI 2 then x + y else if k = nI 3 then x - y else if k = nI 4 then x * y else x / y
/-- what they tell; none where something is divided by 0 -/
def tmF (cd ci vars : Nat → Int32) : Nat → Nat → (Nat → Int32) → Nat → Option Int32
  | 0, _, pile, _ => some (pile 0)
  | n + 1, c, pile, top => if cd c = nI 0 then tmF cd ci vars n (c + 1) (upd pile top (ci c)) (top + 1) else if cd c = nI 1 then tmF cd ci vars n (c + 1) (upd pile top (vars (ci c).toNatClampNeg)) (top + 1)
    else if cd c = nI 5 ∧ pile (top - 1) = 0 then none else tmF cd ci vars n (c + 1) (upd pile (top - 1 - 1) (opF (cd c) (pile (top - 1 - 1)) (pile (top - 1)))) (top - 1)
theorem px_edec {x : Int32} {a : Nat} (hx : x = nI a) (h : 1 ≤ a) : x + (-1) = nI (a - 1) := by
  obtain ⟨k, rfl⟩ : ∃ k, a = k + 1 := ⟨a - 1, by omega⟩
  rw [hx]; exact pk_m1 k
theorem nI_ne {x y : Nat} (hx : x < 2 ^ 31) (hy : y < 2 ^ 31) (h : x ≠ y) : ¬ nI x = nI y := fun e => h ((nI_eq hx hy).mp e)
set_option maxHeartbeats 400000 in
theorem con_termOf (d : Nat) (v : Nat → Int32) (a : Nat → Nat → Int32) (b : Nat → Nat → Int64) (fr n : Nat) (hn : fr + n ≤ 840) (hw : wfC (a 47) (a 48) n fr 0) : Con mX9_termOf d [.ref 0, .int (nI fr), .int (nI (fr + n))] (mW v a b) (fun r W' => ∃ pile, W' = mW (if (tmF (a 47) (a 48) (a 51) n fr (a 52) 0) = none then va_up v 53 (nI 1) else v) (va_up a 52 pile) b ∧ r = some (.int ((tmF (a 47) (a 48) (a 51) n fr (a 52) 0).getD 0))) := by
  refine Con.of (by decide) (Nat.le_of_ble_eq_true rfl) ?_
  refine XG.blk tX9_termOf_ok 0 4 (pc' := 5) (pl' := [some (.ref 0), some (.int (nI fr)), some (.int (nI (fr + n))), some (.int (nI 0)), some (.int (nI fr)), none, none, none]) (st' := []) (W1 := (mW v a b)) (bs := []) rfl rfl rfl ?_
  rw [show mW v a b = mW v (va_up a 52 (a 52)) b by rw [va_up_id]]
  refine px_for n (fun i => ∀ (pile : Nat → Int32) (top : Nat) (hw : wfC (a 47) (a 48) (n - i) (fr + i) top) (ht : tmF (a 47) (a 48) (a 51) (n - i) (fr + i) pile top = (tmF (a 47) (a 48) (a 51) n fr (a 52) 0)), XG mX9_termOf _ 0 0 5 [some (.ref 0), some (.int (nI fr)), some (.int (nI (fr + n))), some (.int (nI top)), some (.int (nI (fr + i))), none, none, none] [] (mW v (va_up a 52 pile) b)) ?_ ?_ 0 (by omega) (a 52) 0 (by rw [Nat.sub_zero]; exact hw) (by rw [Nat.sub_zero]; rfl)
  · intro pile top hw ht
    rw [Nat.sub_self] at ht hw
    refine XG.blk tX9_termOf_ok 4 2 (pc' := 8) (pl' := [some (.ref 0), some (.int (nI fr)), some (.int (nI (fr + n))), some (.int (nI top)), some (.int (nI (fr + n))), none, none, none]) (st' := [(.int (nI (fr + n))), (.int (nI (fr + n)))]) (W1 := (mW v (va_up a 52 pile) b)) (bs := []) rfl rfl rfl ?_
    refine XG.br eX9_termOf_8 (P := (nI (fr + n)) ≤ (nI (fr + n))) (r := []) rfl (tgt := 165) (by decide) (fun h8 => ?_) (fun h8 => ?_)
    · skip
      have g8 : (fr + n) ≤ (fr + n) := (nI_leI (a := (fr + n)) (b := (fr + n)) (by omega) (by omega)).mp h8
      have q1 : (nI 0).toNatClampNeg = 0 := nI_clamp (by omega)
      refine XG.blk tX9_termOf_ok 90 4 (pc' := 171) (pl' := [some (.ref 0), some (.int (nI fr)), some (.int (nI (fr + n))), some (.int (nI top)), some (.int (nI (fr + n))), none, none, none]) (st' := [(.int (pile (nI 0).toNatClampNeg))]) (W1 := (mW v (va_up a 52 pile) b)) (bs := [px_vb (nI 0) 400]) rfl rfl (by (try simp only [q1]); exact (px_all (px_vbN (by omega) (by decide)) rfl)) ?_
      simp only [q1]
      refine XS.iret eX9_termOf_171 rfl rfl ?_
      exact ⟨pile, by rw [if_neg (by rw [← ht]; intro h; cases h)], by rw [← ht]; rfl⟩
    · exfalso
      have g8 : ¬ (fr + n) ≤ (fr + n) := (fun z => h8 ((nI_leI (a := (fr + n)) (b := (fr + n)) (by omega) (by omega)).mpr z))
      omega
  · intro i hi ihi pile top hw ht
    rw [show n - i = (n - (i + 1)) + 1 by omega] at hw ht
    simp only [wfC] at hw
    simp only [tmF] at ht
    rcases hw with ⟨hc, htop, hw⟩ | ⟨hc, htop, ⟨j, hj, hcj⟩, hw⟩ | ⟨htop, htop2, hc, hw⟩
    · rw [if_pos hc] at ht
      refine XG.blk tX9_termOf_ok 4 2 (pc' := 8) (pl' := [some (.ref 0), some (.int (nI fr)), some (.int (nI (fr + n))), some (.int (nI top)), some (.int (nI (fr + i))), none, none, none]) (st' := [(.int (nI (fr + n))), (.int (nI (fr + i)))]) (W1 := (mW v (va_up a 52 pile) b)) (bs := []) rfl rfl rfl ?_
      refine XG.br eX9_termOf_8 (P := (nI (fr + n)) ≤ (nI (fr + i))) (r := []) rfl (tgt := 165) (by decide) (fun h8 => ?_) (fun h8 => ?_)
      · exfalso
        have g8 : (fr + n) ≤ (fr + i) := (nI_leI (a := (fr + n)) (b := (fr + i)) (by omega) (by omega)).mp h8
        omega
      · skip
        have g8 : ¬ (fr + n) ≤ (fr + i) := (fun z => h8 ((nI_leI (a := (fr + n)) (b := (fr + i)) (by omega) (by omega)).mpr z))
        have q2 : (nI (fr + i)).toNatClampNeg = (fr + i) := nI_clamp (by omega)
        have q3 : ((a 47) (fr + i)) = (nI 0) := hc
        refine XG.blk tX9_termOf_ok 7 7 (pc' := 23) (pl' := [some (.ref 0), some (.int (nI fr)), some (.int (nI (fr + n))), some (.int (nI top)), some (.int (nI (fr + i))), some (.int ((a 47) (nI (fr + i)).toNatClampNeg)), none, none]) (st' := [(.int (nI 2)), (.int ((a 47) (nI (fr + i)).toNatClampNeg))]) (W1 := (mW v (va_up a 52 pile) b)) (bs := [px_vb (nI (fr + i)) 840]) rfl rfl (by (try simp only [q2, q3]); exact (px_all (px_vbN (by omega) (by decide)) rfl)) ?_
        simp only [q2, q3]
        refine XG.br eX9_termOf_23 (P := (nI 2) ≤ (nI 0)) (r := []) rfl (tgt := 65) (by decide) (fun h23 => ?_) (fun h23 => ?_)
        · exfalso
          have g23 : 2 ≤ 0 := (nI_leI (a := 2) (b := 0) (by omega) (by omega)).mp h23
          omega
        · skip
          have g23 : ¬ 2 ≤ 0 := (fun z => h23 ((nI_leI (a := 2) (b := 0) (by omega) (by omega)).mpr z))
          refine XG.blk tX9_termOf_ok 15 4 (pc' := 33) (pl' := [some (.ref 0), some (.int (nI fr)), some (.int (nI (fr + n))), some (.int (nI top)), some (.int (nI (fr + i))), some (.int (nI 0)), none, none]) (st' := [(.int (nI 0)), (.int (nI top)), (.ref 36)]) (W1 := (mW v (va_up a 52 pile) b)) (bs := []) rfl rfl rfl ?_
          refine XG.br eX9_termOf_33 (P := ¬ (nI 0) = 0) (r := [(.int (nI top)), (.ref 36)]) rfl (tgt := 46) (by decide) (fun h33 => ?_) (fun h33 => ?_)
          · exfalso
            have g33 : ¬ 0 = 0 := (fun z => h33 ((nI_eq (a := 0) (b := 0) (by omega) (by omega)).mpr z))
            omega
          · skip
            have h33 := Decidable.not_not.mp h33
            have g33 : 0 = 0 := (nI_eq (a := 0) (b := 0) (by omega) (by omega)).mp h33
            have q4 : (nI (fr + i)).toNatClampNeg = (fr + i) := nI_clamp (by omega)
            refine XG.blk tX9_termOf_ok 20 4 (pc' := 43) (pl' := [some (.ref 0), some (.int (nI fr)), some (.int (nI (fr + n))), some (.int (nI top)), some (.int (nI (fr + i))), some (.int (nI 0)), none, none]) (st' := [(.int ((a 48) (nI (fr + i)).toNatClampNeg)), (.int (nI top)), (.ref 36)]) (W1 := (mW v (va_up a 52 pile) b)) (bs := [px_vb (nI (fr + i)) 840]) rfl rfl (by (try simp only [q4]); exact (px_all (px_vbN (by omega) (by decide)) rfl)) ?_
            simp only [q4]
            refine XG.goto eX9_termOf_43 (tgt := 58) (by decide) ?_
            have q5 : (nI top).toNatClampNeg = top := nI_clamp (by omega)
            have q6 : ((nI top) + (nI 1)) = (nI (top + 1)) := px_eadd rfl rfl
            refine XG.blk tX9_termOf_ok 32 2 (pc' := 62) (pl' := [some (.ref 0), some (.int (nI fr)), some (.int (nI (fr + n))), some (.int ((nI top) + (nI 1))), some (.int (nI (fr + i))), some (.int (nI 0)), none, none]) (st' := []) (W1 := (mW v (va_up a 52 (upd pile (nI top).toNatClampNeg ((a 48) (fr + i)))) b)) (bs := [px_vb (nI top) 400]) rfl rfl (by (try simp only [q5, q6]); exact (px_all (px_vbN (by omega) (by decide)) rfl)) ?_
            simp only [q5, q6]
            refine XG.goto eX9_termOf_62 (tgt := 159) (by decide) ?_
            have q7 : ((nI (fr + i)) + (nI 1)) = (nI ((fr + i) + 1)) := px_eadd rfl rfl
            refine XG.blk tX9_termOf_ok 88 1 (pc' := 162) (pl' := [some (.ref 0), some (.int (nI fr)), some (.int (nI (fr + n))), some (.int (nI (top + 1))), some (.int ((nI (fr + i)) + (nI 1))), some (.int (nI 0)), none, none]) (st' := []) (W1 := (mW v (va_up a 52 (upd pile top ((a 48) (fr + i)))) b)) (bs := []) rfl rfl rfl ?_
            simp only [q7]
            refine XG.goto eX9_termOf_162 (tgt := 5) (by decide) ?_
            refine XG.weak (pl' := [some (.ref 0), some (.int (nI fr)), some (.int (nI (fr + n))), some (.int (nI (top + 1))), some (.int (nI (fr + (i + 1)))), none, none, none]) ⟨rfl, rfl, rfl, rfl, rfl, trivial⟩ ?_
            exact ihi (upd pile top ((a 48) (fr + i))) (top + 1) hw ht
    · rw [if_neg (by rw [hc]; exact nI_ne (by decide) (by decide) (by decide)), if_pos hc, hcj, nI_clamp (by omega)] at ht
      refine XG.blk tX9_termOf_ok 4 2 (pc' := 8) (pl' := [some (.ref 0), some (.int (nI fr)), some (.int (nI (fr + n))), some (.int (nI top)), some (.int (nI (fr + i))), none, none, none]) (st' := [(.int (nI (fr + n))), (.int (nI (fr + i)))]) (W1 := (mW v (va_up a 52 pile) b)) (bs := []) rfl rfl rfl ?_
      refine XG.br eX9_termOf_8 (P := (nI (fr + n)) ≤ (nI (fr + i))) (r := []) rfl (tgt := 165) (by decide) (fun h8 => ?_) (fun h8 => ?_)
      · exfalso
        have g8 : (fr + n) ≤ (fr + i) := (nI_leI (a := (fr + n)) (b := (fr + i)) (by omega) (by omega)).mp h8
        omega
      · skip
        have g8 : ¬ (fr + n) ≤ (fr + i) := (fun z => h8 ((nI_leI (a := (fr + n)) (b := (fr + i)) (by omega) (by omega)).mpr z))
        have q8 : (nI (fr + i)).toNatClampNeg = (fr + i) := nI_clamp (by omega)
        have q9 : ((a 47) (fr + i)) = (nI 1) := hc
        refine XG.blk tX9_termOf_ok 7 7 (pc' := 23) (pl' := [some (.ref 0), some (.int (nI fr)), some (.int (nI (fr + n))), some (.int (nI top)), some (.int (nI (fr + i))), some (.int ((a 47) (nI (fr + i)).toNatClampNeg)), none, none]) (st' := [(.int (nI 2)), (.int ((a 47) (nI (fr + i)).toNatClampNeg))]) (W1 := (mW v (va_up a 52 pile) b)) (bs := [px_vb (nI (fr + i)) 840]) rfl rfl (by (try simp only [q8, q9]); exact (px_all (px_vbN (by omega) (by decide)) rfl)) ?_
        simp only [q8, q9]
        refine XG.br eX9_termOf_23 (P := (nI 2) ≤ (nI 1)) (r := []) rfl (tgt := 65) (by decide) (fun h23 => ?_) (fun h23 => ?_)
        · exfalso
          have g23 : 2 ≤ 1 := (nI_leI (a := 2) (b := 1) (by omega) (by omega)).mp h23
          omega
        · skip
          have g23 : ¬ 2 ≤ 1 := (fun z => h23 ((nI_leI (a := 2) (b := 1) (by omega) (by omega)).mpr z))
          refine XG.blk tX9_termOf_ok 15 4 (pc' := 33) (pl' := [some (.ref 0), some (.int (nI fr)), some (.int (nI (fr + n))), some (.int (nI top)), some (.int (nI (fr + i))), some (.int (nI 1)), none, none]) (st' := [(.int (nI 1)), (.int (nI top)), (.ref 36)]) (W1 := (mW v (va_up a 52 pile) b)) (bs := []) rfl rfl rfl ?_
          refine XG.br eX9_termOf_33 (P := ¬ (nI 1) = 0) (r := [(.int (nI top)), (.ref 36)]) rfl (tgt := 46) (by decide) (fun h33 => ?_) (fun h33 => ?_)
          · skip
            have g33 : ¬ 1 = 0 := (fun z => h33 ((nI_eq (a := 1) (b := 0) (by omega) (by omega)).mpr z))
            have q10 : (nI (fr + i)).toNatClampNeg = (fr + i) := nI_clamp (by omega)
            have q11 : ((a 48) (fr + i)) = (nI j) := hcj
            have q12 : (nI j).toNatClampNeg = j := nI_clamp (by omega)
            have q13 : (nI top).toNatClampNeg = top := nI_clamp (by omega)
            have q14 : ((nI top) + (nI 1)) = (nI (top + 1)) := px_eadd rfl rfl
            refine XG.blk tX9_termOf_ok 25 9 (pc' := 62) (pl' := [some (.ref 0), some (.int (nI fr)), some (.int (nI (fr + n))), some (.int ((nI top) + (nI 1))), some (.int (nI (fr + i))), some (.int (nI 1)), none, none]) (st' := []) (W1 := (mW v (va_up a 52 (upd pile (nI top).toNatClampNeg ((a 51) ((a 48) (nI (fr + i)).toNatClampNeg).toNatClampNeg))) b)) (bs := [px_vb (nI (fr + i)) 840, px_vb ((a 48) (nI (fr + i)).toNatClampNeg) 9, px_vb (nI top) 400]) rfl rfl (by (try simp only [q10, q11, q12, q13, q14]); exact (px_all (px_vbN (by omega) (by decide)) (px_all (px_vbN (by omega) (by decide)) (px_all (px_vbN (by omega) (by decide)) rfl)))) ?_
            simp only [q10, q11, q12, q13, q14]
            refine XG.goto eX9_termOf_62 (tgt := 159) (by decide) ?_
            have q15 : ((nI (fr + i)) + (nI 1)) = (nI ((fr + i) + 1)) := px_eadd rfl rfl
            refine XG.blk tX9_termOf_ok 88 1 (pc' := 162) (pl' := [some (.ref 0), some (.int (nI fr)), some (.int (nI (fr + n))), some (.int (nI (top + 1))), some (.int ((nI (fr + i)) + (nI 1))), some (.int (nI 1)), none, none]) (st' := []) (W1 := (mW v (va_up a 52 (upd pile top ((a 51) j))) b)) (bs := []) rfl rfl rfl ?_
            simp only [q15]
            refine XG.goto eX9_termOf_162 (tgt := 5) (by decide) ?_
            refine XG.weak (pl' := [some (.ref 0), some (.int (nI fr)), some (.int (nI (fr + n))), some (.int (nI (top + 1))), some (.int (nI (fr + (i + 1)))), none, none, none]) ⟨rfl, rfl, rfl, rfl, rfl, trivial⟩ ?_
            exact ihi (upd pile top ((a 51) j)) (top + 1) hw ht
          · exfalso
            have h33 := Decidable.not_not.mp h33
            have g33 : 1 = 0 := (nI_eq (a := 1) (b := 0) (by omega) (by omega)).mp h33
            omega
    · rcases hc with hc | hc | hc | hc
      · rw [if_neg (by rw [hc]; exact nI_ne (by decide) (by decide) (by decide)), if_neg (by rw [hc]; exact nI_ne (by decide) (by decide) (by decide)), if_neg (fun hz => absurd hz.1 (by rw [hc]; exact nI_ne (by decide) (by decide) (by decide))), hc, show opF (nI 2) (pile (top - 1 - 1)) (pile (top - 1)) = pile (top - 1 - 1) + pile (top - 1) from rfl] at ht
        refine XG.blk tX9_termOf_ok 4 2 (pc' := 8) (pl' := [some (.ref 0), some (.int (nI fr)), some (.int (nI (fr + n))), some (.int (nI top)), some (.int (nI (fr + i))), none, none, none]) (st' := [(.int (nI (fr + n))), (.int (nI (fr + i)))]) (W1 := (mW v (va_up a 52 pile) b)) (bs := []) rfl rfl rfl ?_
        refine XG.br eX9_termOf_8 (P := (nI (fr + n)) ≤ (nI (fr + i))) (r := []) rfl (tgt := 165) (by decide) (fun h8 => ?_) (fun h8 => ?_)
        · exfalso
          have g8 : (fr + n) ≤ (fr + i) := (nI_leI (a := (fr + n)) (b := (fr + i)) (by omega) (by omega)).mp h8
          omega
        · skip
          have g8 : ¬ (fr + n) ≤ (fr + i) := (fun z => h8 ((nI_leI (a := (fr + n)) (b := (fr + i)) (by omega) (by omega)).mpr z))
          have q16 : (nI (fr + i)).toNatClampNeg = (fr + i) := nI_clamp (by omega)
          have q17 : ((a 47) (fr + i)) = (nI 2) := hc
          refine XG.blk tX9_termOf_ok 7 7 (pc' := 23) (pl' := [some (.ref 0), some (.int (nI fr)), some (.int (nI (fr + n))), some (.int (nI top)), some (.int (nI (fr + i))), some (.int ((a 47) (nI (fr + i)).toNatClampNeg)), none, none]) (st' := [(.int (nI 2)), (.int ((a 47) (nI (fr + i)).toNatClampNeg))]) (W1 := (mW v (va_up a 52 pile) b)) (bs := [px_vb (nI (fr + i)) 840]) rfl rfl (by (try simp only [q16, q17]); exact (px_all (px_vbN (by omega) (by decide)) rfl)) ?_
          simp only [q16, q17]
          refine XG.br eX9_termOf_23 (P := (nI 2) ≤ (nI 2)) (r := []) rfl (tgt := 65) (by decide) (fun h23 => ?_) (fun h23 => ?_)
          · skip
            have g23 : 2 ≤ 2 := (nI_leI (a := 2) (b := 2) (by omega) (by omega)).mp h23
            have q18 : ((nI top) + (-1)) = (nI (top - 1)) := px_edec rfl (by omega)
            have q19 : ((nI (top - 1)) - (nI 1)) = (nI ((top - 1) - 1)) := px_esub rfl rfl (by omega)
            have q20 : (nI ((top - 1) - 1)).toNatClampNeg = ((top - 1) - 1) := nI_clamp (by omega)
            have q21 : (nI (top - 1)).toNatClampNeg = (top - 1) := nI_clamp (by omega)
            refine XG.blk tX9_termOf_ok 35 15 (pc' := 89) (pl' := [some (.ref 0), some (.int (nI fr)), some (.int (nI (fr + n))), some (.int ((nI top) + (-1))), some (.int (nI (fr + i))), some (.int (nI 2)), some (.int (pile (((nI top) + (-1)) - (nI 1)).toNatClampNeg)), some (.int (pile ((nI top) + (-1)).toNatClampNeg))]) (st' := [(.int (nI 5)), (.int (nI 2))]) (W1 := (mW v (va_up a 52 pile) b)) (bs := [px_vb (((nI top) + (-1)) - (nI 1)) 400, px_vb ((nI top) + (-1)) 400]) rfl rfl (by (try simp only [q18, q19, q20, q21]); exact (px_all (px_vbN (by omega) (by decide)) (px_all (px_vbN (by omega) (by decide)) rfl))) ?_
            simp only [q18, q19, q20, q21]
            refine XG.br eX9_termOf_89 (P := ¬ (nI 2) = (nI 5)) (r := []) rfl (tgt := 104) (by decide) (fun h89 => ?_) (fun h89 => ?_)
            · skip
              have g89 : ¬ 2 = 5 := (fun z => h89 ((nI_eq (a := 2) (b := 5) (by omega) (by omega)).mpr z))
              have q22 : ((nI (top - 1)) - (nI 1)) = (nI ((top - 1) - 1)) := px_esub rfl rfl (by omega)
              refine XG.blk tX9_termOf_ok 58 7 (pc' := 114) (pl' := [some (.ref 0), some (.int (nI fr)), some (.int (nI (fr + n))), some (.int (nI (top - 1))), some (.int (nI (fr + i))), some (.int (nI 2)), some (.int (pile ((top - 1) - 1))), some (.int (pile (top - 1)))]) (st' := [(.int (nI 2)), (.int (nI 2)), (.int ((nI (top - 1)) - (nI 1))), (.ref 36)]) (W1 := (mW v (va_up a 52 pile) b)) (bs := []) rfl rfl rfl ?_
              simp only [q22]
              refine XG.br eX9_termOf_114 (P := ¬ (nI 2) = (nI 2)) (r := [(.int (nI ((top - 1) - 1))), (.ref 36)]) rfl (tgt := 125) (by decide) (fun h114 => ?_) (fun h114 => ?_)
              · exfalso
                have g114 : ¬ 2 = 2 := (fun z => h114 ((nI_eq (a := 2) (b := 2) (by omega) (by omega)).mpr z))
                omega
              · skip
                have h114 := Decidable.not_not.mp h114
                have g114 : 2 = 2 := (nI_eq (a := 2) (b := 2) (by omega) (by omega)).mp h114
                refine XG.blk tX9_termOf_ok 66 3 (pc' := 122) (pl' := [some (.ref 0), some (.int (nI fr)), some (.int (nI (fr + n))), some (.int (nI (top - 1))), some (.int (nI (fr + i))), some (.int (nI 2)), some (.int (pile ((top - 1) - 1))), some (.int (pile (top - 1)))]) (st' := [(.int ((pile ((top - 1) - 1)) + (pile (top - 1)))), (.int (nI ((top - 1) - 1))), (.ref 36)]) (W1 := (mW v (va_up a 52 pile) b)) (bs := []) rfl rfl rfl ?_
                refine XG.goto eX9_termOf_122 (tgt := 158) (by decide) ?_
                have q23 : (nI ((top - 1) - 1)).toNatClampNeg = ((top - 1) - 1) := nI_clamp (by omega)
                have q24 : ((nI (fr + i)) + (nI 1)) = (nI ((fr + i) + 1)) := px_eadd rfl rfl
                refine XG.blk tX9_termOf_ok 87 2 (pc' := 162) (pl' := [some (.ref 0), some (.int (nI fr)), some (.int (nI (fr + n))), some (.int (nI (top - 1))), some (.int ((nI (fr + i)) + (nI 1))), some (.int (nI 2)), some (.int (pile ((top - 1) - 1))), some (.int (pile (top - 1)))]) (st' := []) (W1 := (mW v (va_up a 52 (upd pile (nI ((top - 1) - 1)).toNatClampNeg ((pile ((top - 1) - 1)) + (pile (top - 1))))) b)) (bs := [px_vb (nI ((top - 1) - 1)) 400]) rfl rfl (by (try simp only [q23, q24]); exact (px_all (px_vbN (by omega) (by decide)) rfl)) ?_
                simp only [q23, q24]
                refine XG.goto eX9_termOf_162 (tgt := 5) (by decide) ?_
                refine XG.weak (pl' := [some (.ref 0), some (.int (nI fr)), some (.int (nI (fr + n))), some (.int (nI (top - 1))), some (.int (nI (fr + (i + 1)))), none, none, none]) ⟨rfl, rfl, rfl, rfl, rfl, trivial⟩ ?_
                exact ihi (upd pile ((top - 1) - 1) ((pile ((top - 1) - 1)) + (pile (top - 1)))) (top - 1) hw ht
            · exfalso
              have h89 := Decidable.not_not.mp h89
              have g89 : 2 = 5 := (nI_eq (a := 2) (b := 5) (by omega) (by omega)).mp h89
              omega
          · exfalso
            have g23 : ¬ 2 ≤ 2 := (fun z => h23 ((nI_leI (a := 2) (b := 2) (by omega) (by omega)).mpr z))
            omega
      · rw [if_neg (by rw [hc]; exact nI_ne (by decide) (by decide) (by decide)), if_neg (by rw [hc]; exact nI_ne (by decide) (by decide) (by decide)), if_neg (fun hz => absurd hz.1 (by rw [hc]; exact nI_ne (by decide) (by decide) (by decide))), hc, show opF (nI 3) (pile (top - 1 - 1)) (pile (top - 1)) = pile (top - 1 - 1) - pile (top - 1) from rfl] at ht
        refine XG.blk tX9_termOf_ok 4 2 (pc' := 8) (pl' := [some (.ref 0), some (.int (nI fr)), some (.int (nI (fr + n))), some (.int (nI top)), some (.int (nI (fr + i))), none, none, none]) (st' := [(.int (nI (fr + n))), (.int (nI (fr + i)))]) (W1 := (mW v (va_up a 52 pile) b)) (bs := []) rfl rfl rfl ?_
        refine XG.br eX9_termOf_8 (P := (nI (fr + n)) ≤ (nI (fr + i))) (r := []) rfl (tgt := 165) (by decide) (fun h8 => ?_) (fun h8 => ?_)
        · exfalso
          have g8 : (fr + n) ≤ (fr + i) := (nI_leI (a := (fr + n)) (b := (fr + i)) (by omega) (by omega)).mp h8
          omega
        · skip
          have g8 : ¬ (fr + n) ≤ (fr + i) := (fun z => h8 ((nI_leI (a := (fr + n)) (b := (fr + i)) (by omega) (by omega)).mpr z))
          have q25 : (nI (fr + i)).toNatClampNeg = (fr + i) := nI_clamp (by omega)
          have q26 : ((a 47) (fr + i)) = (nI 3) := hc
          refine XG.blk tX9_termOf_ok 7 7 (pc' := 23) (pl' := [some (.ref 0), some (.int (nI fr)), some (.int (nI (fr + n))), some (.int (nI top)), some (.int (nI (fr + i))), some (.int ((a 47) (nI (fr + i)).toNatClampNeg)), none, none]) (st' := [(.int (nI 2)), (.int ((a 47) (nI (fr + i)).toNatClampNeg))]) (W1 := (mW v (va_up a 52 pile) b)) (bs := [px_vb (nI (fr + i)) 840]) rfl rfl (by (try simp only [q25, q26]); exact (px_all (px_vbN (by omega) (by decide)) rfl)) ?_
          simp only [q25, q26]
          refine XG.br eX9_termOf_23 (P := (nI 2) ≤ (nI 3)) (r := []) rfl (tgt := 65) (by decide) (fun h23 => ?_) (fun h23 => ?_)
          · skip
            have g23 : 2 ≤ 3 := (nI_leI (a := 2) (b := 3) (by omega) (by omega)).mp h23
            have q27 : ((nI top) + (-1)) = (nI (top - 1)) := px_edec rfl (by omega)
            have q28 : ((nI (top - 1)) - (nI 1)) = (nI ((top - 1) - 1)) := px_esub rfl rfl (by omega)
            have q29 : (nI ((top - 1) - 1)).toNatClampNeg = ((top - 1) - 1) := nI_clamp (by omega)
            have q30 : (nI (top - 1)).toNatClampNeg = (top - 1) := nI_clamp (by omega)
            refine XG.blk tX9_termOf_ok 35 15 (pc' := 89) (pl' := [some (.ref 0), some (.int (nI fr)), some (.int (nI (fr + n))), some (.int ((nI top) + (-1))), some (.int (nI (fr + i))), some (.int (nI 3)), some (.int (pile (((nI top) + (-1)) - (nI 1)).toNatClampNeg)), some (.int (pile ((nI top) + (-1)).toNatClampNeg))]) (st' := [(.int (nI 5)), (.int (nI 3))]) (W1 := (mW v (va_up a 52 pile) b)) (bs := [px_vb (((nI top) + (-1)) - (nI 1)) 400, px_vb ((nI top) + (-1)) 400]) rfl rfl (by (try simp only [q27, q28, q29, q30]); exact (px_all (px_vbN (by omega) (by decide)) (px_all (px_vbN (by omega) (by decide)) rfl))) ?_
            simp only [q27, q28, q29, q30]
            refine XG.br eX9_termOf_89 (P := ¬ (nI 3) = (nI 5)) (r := []) rfl (tgt := 104) (by decide) (fun h89 => ?_) (fun h89 => ?_)
            · skip
              have g89 : ¬ 3 = 5 := (fun z => h89 ((nI_eq (a := 3) (b := 5) (by omega) (by omega)).mpr z))
              have q31 : ((nI (top - 1)) - (nI 1)) = (nI ((top - 1) - 1)) := px_esub rfl rfl (by omega)
              refine XG.blk tX9_termOf_ok 58 7 (pc' := 114) (pl' := [some (.ref 0), some (.int (nI fr)), some (.int (nI (fr + n))), some (.int (nI (top - 1))), some (.int (nI (fr + i))), some (.int (nI 3)), some (.int (pile ((top - 1) - 1))), some (.int (pile (top - 1)))]) (st' := [(.int (nI 2)), (.int (nI 3)), (.int ((nI (top - 1)) - (nI 1))), (.ref 36)]) (W1 := (mW v (va_up a 52 pile) b)) (bs := []) rfl rfl rfl ?_
              simp only [q31]
              refine XG.br eX9_termOf_114 (P := ¬ (nI 3) = (nI 2)) (r := [(.int (nI ((top - 1) - 1))), (.ref 36)]) rfl (tgt := 125) (by decide) (fun h114 => ?_) (fun h114 => ?_)
              · skip
                have g114 : ¬ 3 = 2 := (fun z => h114 ((nI_eq (a := 3) (b := 2) (by omega) (by omega)).mpr z))
                refine XG.blk tX9_termOf_ok 70 2 (pc' := 128) (pl' := [some (.ref 0), some (.int (nI fr)), some (.int (nI (fr + n))), some (.int (nI (top - 1))), some (.int (nI (fr + i))), some (.int (nI 3)), some (.int (pile ((top - 1) - 1))), some (.int (pile (top - 1)))]) (st' := [(.int (nI 3)), (.int (nI 3)), (.int (nI ((top - 1) - 1))), (.ref 36)]) (W1 := (mW v (va_up a 52 pile) b)) (bs := []) rfl rfl rfl ?_
                refine XG.br eX9_termOf_128 (P := ¬ (nI 3) = (nI 3)) (r := [(.int (nI ((top - 1) - 1))), (.ref 36)]) rfl (tgt := 139) (by decide) (fun h128 => ?_) (fun h128 => ?_)
                · exfalso
                  have g128 : ¬ 3 = 3 := (fun z => h128 ((nI_eq (a := 3) (b := 3) (by omega) (by omega)).mpr z))
                  omega
                · skip
                  have h128 := Decidable.not_not.mp h128
                  have g128 : 3 = 3 := (nI_eq (a := 3) (b := 3) (by omega) (by omega)).mp h128
                  refine XG.blk tX9_termOf_ok 73 3 (pc' := 136) (pl' := [some (.ref 0), some (.int (nI fr)), some (.int (nI (fr + n))), some (.int (nI (top - 1))), some (.int (nI (fr + i))), some (.int (nI 3)), some (.int (pile ((top - 1) - 1))), some (.int (pile (top - 1)))]) (st' := [(.int ((pile ((top - 1) - 1)) - (pile (top - 1)))), (.int (nI ((top - 1) - 1))), (.ref 36)]) (W1 := (mW v (va_up a 52 pile) b)) (bs := []) rfl rfl rfl ?_
                  refine XG.goto eX9_termOf_136 (tgt := 158) (by decide) ?_
                  have q32 : (nI ((top - 1) - 1)).toNatClampNeg = ((top - 1) - 1) := nI_clamp (by omega)
                  have q33 : ((nI (fr + i)) + (nI 1)) = (nI ((fr + i) + 1)) := px_eadd rfl rfl
                  refine XG.blk tX9_termOf_ok 87 2 (pc' := 162) (pl' := [some (.ref 0), some (.int (nI fr)), some (.int (nI (fr + n))), some (.int (nI (top - 1))), some (.int ((nI (fr + i)) + (nI 1))), some (.int (nI 3)), some (.int (pile ((top - 1) - 1))), some (.int (pile (top - 1)))]) (st' := []) (W1 := (mW v (va_up a 52 (upd pile (nI ((top - 1) - 1)).toNatClampNeg ((pile ((top - 1) - 1)) - (pile (top - 1))))) b)) (bs := [px_vb (nI ((top - 1) - 1)) 400]) rfl rfl (by (try simp only [q32, q33]); exact (px_all (px_vbN (by omega) (by decide)) rfl)) ?_
                  simp only [q32, q33]
                  refine XG.goto eX9_termOf_162 (tgt := 5) (by decide) ?_
                  refine XG.weak (pl' := [some (.ref 0), some (.int (nI fr)), some (.int (nI (fr + n))), some (.int (nI (top - 1))), some (.int (nI (fr + (i + 1)))), none, none, none]) ⟨rfl, rfl, rfl, rfl, rfl, trivial⟩ ?_
                  exact ihi (upd pile ((top - 1) - 1) ((pile ((top - 1) - 1)) - (pile (top - 1)))) (top - 1) hw ht
              · exfalso
                have h114 := Decidable.not_not.mp h114
                have g114 : 3 = 2 := (nI_eq (a := 3) (b := 2) (by omega) (by omega)).mp h114
                omega
            · exfalso
              have h89 := Decidable.not_not.mp h89
              have g89 : 3 = 5 := (nI_eq (a := 3) (b := 5) (by omega) (by omega)).mp h89
              omega
          · exfalso
            have g23 : ¬ 2 ≤ 3 := (fun z => h23 ((nI_leI (a := 2) (b := 3) (by omega) (by omega)).mpr z))
            omega
      · rw [if_neg (by rw [hc]; exact nI_ne (by decide) (by decide) (by decide)), if_neg (by rw [hc]; exact nI_ne (by decide) (by decide) (by decide)), if_neg (fun hz => absurd hz.1 (by rw [hc]; exact nI_ne (by decide) (by decide) (by decide))), hc, show opF (nI 4) (pile (top - 1 - 1)) (pile (top - 1)) = pile (top - 1 - 1) * pile (top - 1) from rfl] at ht
        refine XG.blk tX9_termOf_ok 4 2 (pc' := 8) (pl' := [some (.ref 0), some (.int (nI fr)), some (.int (nI (fr + n))), some (.int (nI top)), some (.int (nI (fr + i))), none, none, none]) (st' := [(.int (nI (fr + n))), (.int (nI (fr + i)))]) (W1 := (mW v (va_up a 52 pile) b)) (bs := []) rfl rfl rfl ?_
        refine XG.br eX9_termOf_8 (P := (nI (fr + n)) ≤ (nI (fr + i))) (r := []) rfl (tgt := 165) (by decide) (fun h8 => ?_) (fun h8 => ?_)
        · exfalso
          have g8 : (fr + n) ≤ (fr + i) := (nI_leI (a := (fr + n)) (b := (fr + i)) (by omega) (by omega)).mp h8
          omega
        · skip
          have g8 : ¬ (fr + n) ≤ (fr + i) := (fun z => h8 ((nI_leI (a := (fr + n)) (b := (fr + i)) (by omega) (by omega)).mpr z))
          have q34 : (nI (fr + i)).toNatClampNeg = (fr + i) := nI_clamp (by omega)
          have q35 : ((a 47) (fr + i)) = (nI 4) := hc
          refine XG.blk tX9_termOf_ok 7 7 (pc' := 23) (pl' := [some (.ref 0), some (.int (nI fr)), some (.int (nI (fr + n))), some (.int (nI top)), some (.int (nI (fr + i))), some (.int ((a 47) (nI (fr + i)).toNatClampNeg)), none, none]) (st' := [(.int (nI 2)), (.int ((a 47) (nI (fr + i)).toNatClampNeg))]) (W1 := (mW v (va_up a 52 pile) b)) (bs := [px_vb (nI (fr + i)) 840]) rfl rfl (by (try simp only [q34, q35]); exact (px_all (px_vbN (by omega) (by decide)) rfl)) ?_
          simp only [q34, q35]
          refine XG.br eX9_termOf_23 (P := (nI 2) ≤ (nI 4)) (r := []) rfl (tgt := 65) (by decide) (fun h23 => ?_) (fun h23 => ?_)
          · skip
            have g23 : 2 ≤ 4 := (nI_leI (a := 2) (b := 4) (by omega) (by omega)).mp h23
            have q36 : ((nI top) + (-1)) = (nI (top - 1)) := px_edec rfl (by omega)
            have q37 : ((nI (top - 1)) - (nI 1)) = (nI ((top - 1) - 1)) := px_esub rfl rfl (by omega)
            have q38 : (nI ((top - 1) - 1)).toNatClampNeg = ((top - 1) - 1) := nI_clamp (by omega)
            have q39 : (nI (top - 1)).toNatClampNeg = (top - 1) := nI_clamp (by omega)
            refine XG.blk tX9_termOf_ok 35 15 (pc' := 89) (pl' := [some (.ref 0), some (.int (nI fr)), some (.int (nI (fr + n))), some (.int ((nI top) + (-1))), some (.int (nI (fr + i))), some (.int (nI 4)), some (.int (pile (((nI top) + (-1)) - (nI 1)).toNatClampNeg)), some (.int (pile ((nI top) + (-1)).toNatClampNeg))]) (st' := [(.int (nI 5)), (.int (nI 4))]) (W1 := (mW v (va_up a 52 pile) b)) (bs := [px_vb (((nI top) + (-1)) - (nI 1)) 400, px_vb ((nI top) + (-1)) 400]) rfl rfl (by (try simp only [q36, q37, q38, q39]); exact (px_all (px_vbN (by omega) (by decide)) (px_all (px_vbN (by omega) (by decide)) rfl))) ?_
            simp only [q36, q37, q38, q39]
            refine XG.br eX9_termOf_89 (P := ¬ (nI 4) = (nI 5)) (r := []) rfl (tgt := 104) (by decide) (fun h89 => ?_) (fun h89 => ?_)
            · skip
              have g89 : ¬ 4 = 5 := (fun z => h89 ((nI_eq (a := 4) (b := 5) (by omega) (by omega)).mpr z))
              have q40 : ((nI (top - 1)) - (nI 1)) = (nI ((top - 1) - 1)) := px_esub rfl rfl (by omega)
              refine XG.blk tX9_termOf_ok 58 7 (pc' := 114) (pl' := [some (.ref 0), some (.int (nI fr)), some (.int (nI (fr + n))), some (.int (nI (top - 1))), some (.int (nI (fr + i))), some (.int (nI 4)), some (.int (pile ((top - 1) - 1))), some (.int (pile (top - 1)))]) (st' := [(.int (nI 2)), (.int (nI 4)), (.int ((nI (top - 1)) - (nI 1))), (.ref 36)]) (W1 := (mW v (va_up a 52 pile) b)) (bs := []) rfl rfl rfl ?_
              simp only [q40]
              refine XG.br eX9_termOf_114 (P := ¬ (nI 4) = (nI 2)) (r := [(.int (nI ((top - 1) - 1))), (.ref 36)]) rfl (tgt := 125) (by decide) (fun h114 => ?_) (fun h114 => ?_)
              · skip
                have g114 : ¬ 4 = 2 := (fun z => h114 ((nI_eq (a := 4) (b := 2) (by omega) (by omega)).mpr z))
                refine XG.blk tX9_termOf_ok 70 2 (pc' := 128) (pl' := [some (.ref 0), some (.int (nI fr)), some (.int (nI (fr + n))), some (.int (nI (top - 1))), some (.int (nI (fr + i))), some (.int (nI 4)), some (.int (pile ((top - 1) - 1))), some (.int (pile (top - 1)))]) (st' := [(.int (nI 3)), (.int (nI 4)), (.int (nI ((top - 1) - 1))), (.ref 36)]) (W1 := (mW v (va_up a 52 pile) b)) (bs := []) rfl rfl rfl ?_
                refine XG.br eX9_termOf_128 (P := ¬ (nI 4) = (nI 3)) (r := [(.int (nI ((top - 1) - 1))), (.ref 36)]) rfl (tgt := 139) (by decide) (fun h128 => ?_) (fun h128 => ?_)
                · skip
                  have g128 : ¬ 4 = 3 := (fun z => h128 ((nI_eq (a := 4) (b := 3) (by omega) (by omega)).mpr z))
                  refine XG.blk tX9_termOf_ok 77 2 (pc' := 142) (pl' := [some (.ref 0), some (.int (nI fr)), some (.int (nI (fr + n))), some (.int (nI (top - 1))), some (.int (nI (fr + i))), some (.int (nI 4)), some (.int (pile ((top - 1) - 1))), some (.int (pile (top - 1)))]) (st' := [(.int (nI 4)), (.int (nI 4)), (.int (nI ((top - 1) - 1))), (.ref 36)]) (W1 := (mW v (va_up a 52 pile) b)) (bs := []) rfl rfl rfl ?_
                  refine XG.br eX9_termOf_142 (P := ¬ (nI 4) = (nI 4)) (r := [(.int (nI ((top - 1) - 1))), (.ref 36)]) rfl (tgt := 153) (by decide) (fun h142 => ?_) (fun h142 => ?_)
                  · exfalso
                    have g142 : ¬ 4 = 4 := (fun z => h142 ((nI_eq (a := 4) (b := 4) (by omega) (by omega)).mpr z))
                    omega
                  · skip
                    have h142 := Decidable.not_not.mp h142
                    have g142 : 4 = 4 := (nI_eq (a := 4) (b := 4) (by omega) (by omega)).mp h142
                    refine XG.blk tX9_termOf_ok 80 3 (pc' := 150) (pl' := [some (.ref 0), some (.int (nI fr)), some (.int (nI (fr + n))), some (.int (nI (top - 1))), some (.int (nI (fr + i))), some (.int (nI 4)), some (.int (pile ((top - 1) - 1))), some (.int (pile (top - 1)))]) (st' := [(.int ((pile ((top - 1) - 1)) * (pile (top - 1)))), (.int (nI ((top - 1) - 1))), (.ref 36)]) (W1 := (mW v (va_up a 52 pile) b)) (bs := []) rfl rfl rfl ?_
                    refine XG.goto eX9_termOf_150 (tgt := 158) (by decide) ?_
                    have q41 : (nI ((top - 1) - 1)).toNatClampNeg = ((top - 1) - 1) := nI_clamp (by omega)
                    have q42 : ((nI (fr + i)) + (nI 1)) = (nI ((fr + i) + 1)) := px_eadd rfl rfl
                    refine XG.blk tX9_termOf_ok 87 2 (pc' := 162) (pl' := [some (.ref 0), some (.int (nI fr)), some (.int (nI (fr + n))), some (.int (nI (top - 1))), some (.int ((nI (fr + i)) + (nI 1))), some (.int (nI 4)), some (.int (pile ((top - 1) - 1))), some (.int (pile (top - 1)))]) (st' := []) (W1 := (mW v (va_up a 52 (upd pile (nI ((top - 1) - 1)).toNatClampNeg ((pile ((top - 1) - 1)) * (pile (top - 1))))) b)) (bs := [px_vb (nI ((top - 1) - 1)) 400]) rfl rfl (by (try simp only [q41, q42]); exact (px_all (px_vbN (by omega) (by decide)) rfl)) ?_
                    simp only [q41, q42]
                    refine XG.goto eX9_termOf_162 (tgt := 5) (by decide) ?_
                    refine XG.weak (pl' := [some (.ref 0), some (.int (nI fr)), some (.int (nI (fr + n))), some (.int (nI (top - 1))), some (.int (nI (fr + (i + 1)))), none, none, none]) ⟨rfl, rfl, rfl, rfl, rfl, trivial⟩ ?_
                    exact ihi (upd pile ((top - 1) - 1) ((pile ((top - 1) - 1)) * (pile (top - 1)))) (top - 1) hw ht
                · exfalso
                  have h128 := Decidable.not_not.mp h128
                  have g128 : 4 = 3 := (nI_eq (a := 4) (b := 3) (by omega) (by omega)).mp h128
                  omega
              · exfalso
                have h114 := Decidable.not_not.mp h114
                have g114 : 4 = 2 := (nI_eq (a := 4) (b := 2) (by omega) (by omega)).mp h114
                omega
            · exfalso
              have h89 := Decidable.not_not.mp h89
              have g89 : 4 = 5 := (nI_eq (a := 4) (b := 5) (by omega) (by omega)).mp h89
              omega
          · exfalso
            have g23 : ¬ 2 ≤ 4 := (fun z => h23 ((nI_leI (a := 2) (b := 4) (by omega) (by omega)).mpr z))
            omega
      · rw [if_neg (by rw [hc]; exact nI_ne (by decide) (by decide) (by decide)), if_neg (by rw [hc]; exact nI_ne (by decide) (by decide) (by decide))] at ht
        by_cases hz : pile (top - 1) = 0
        · rw [if_pos ⟨hc, hz⟩] at ht
          refine XG.blk tX9_termOf_ok 4 2 (pc' := 8) (pl' := [some (.ref 0), some (.int (nI fr)), some (.int (nI (fr + n))), some (.int (nI top)), some (.int (nI (fr + i))), none, none, none]) (st' := [(.int (nI (fr + n))), (.int (nI (fr + i)))]) (W1 := (mW v (va_up a 52 pile) b)) (bs := []) rfl rfl rfl ?_
          refine XG.br eX9_termOf_8 (P := (nI (fr + n)) ≤ (nI (fr + i))) (r := []) rfl (tgt := 165) (by decide) (fun h8 => ?_) (fun h8 => ?_)
          · exfalso
            have g8 : (fr + n) ≤ (fr + i) := (nI_leI (a := (fr + n)) (b := (fr + i)) (by omega) (by omega)).mp h8
            omega
          · skip
            have g8 : ¬ (fr + n) ≤ (fr + i) := (fun z => h8 ((nI_leI (a := (fr + n)) (b := (fr + i)) (by omega) (by omega)).mpr z))
            have q43 : (nI (fr + i)).toNatClampNeg = (fr + i) := nI_clamp (by omega)
            have q44 : ((a 47) (fr + i)) = (nI 5) := hc
            refine XG.blk tX9_termOf_ok 7 7 (pc' := 23) (pl' := [some (.ref 0), some (.int (nI fr)), some (.int (nI (fr + n))), some (.int (nI top)), some (.int (nI (fr + i))), some (.int ((a 47) (nI (fr + i)).toNatClampNeg)), none, none]) (st' := [(.int (nI 2)), (.int ((a 47) (nI (fr + i)).toNatClampNeg))]) (W1 := (mW v (va_up a 52 pile) b)) (bs := [px_vb (nI (fr + i)) 840]) rfl rfl (by (try simp only [q43, q44]); exact (px_all (px_vbN (by omega) (by decide)) rfl)) ?_
            simp only [q43, q44]
            refine XG.br eX9_termOf_23 (P := (nI 2) ≤ (nI 5)) (r := []) rfl (tgt := 65) (by decide) (fun h23 => ?_) (fun h23 => ?_)
            · skip
              have g23 : 2 ≤ 5 := (nI_leI (a := 2) (b := 5) (by omega) (by omega)).mp h23
              have q45 : ((nI top) + (-1)) = (nI (top - 1)) := px_edec rfl (by omega)
              have q46 : ((nI (top - 1)) - (nI 1)) = (nI ((top - 1) - 1)) := px_esub rfl rfl (by omega)
              have q47 : (nI ((top - 1) - 1)).toNatClampNeg = ((top - 1) - 1) := nI_clamp (by omega)
              have q48 : (nI (top - 1)).toNatClampNeg = (top - 1) := nI_clamp (by omega)
              refine XG.blk tX9_termOf_ok 35 15 (pc' := 89) (pl' := [some (.ref 0), some (.int (nI fr)), some (.int (nI (fr + n))), some (.int ((nI top) + (-1))), some (.int (nI (fr + i))), some (.int (nI 5)), some (.int (pile (((nI top) + (-1)) - (nI 1)).toNatClampNeg)), some (.int (pile ((nI top) + (-1)).toNatClampNeg))]) (st' := [(.int (nI 5)), (.int (nI 5))]) (W1 := (mW v (va_up a 52 pile) b)) (bs := [px_vb (((nI top) + (-1)) - (nI 1)) 400, px_vb ((nI top) + (-1)) 400]) rfl rfl (by (try simp only [q45, q46, q47, q48]); exact (px_all (px_vbN (by omega) (by decide)) (px_all (px_vbN (by omega) (by decide)) rfl))) ?_
              simp only [q45, q46, q47, q48]
              refine XG.br eX9_termOf_89 (P := ¬ (nI 5) = (nI 5)) (r := []) rfl (tgt := 104) (by decide) (fun h89 => ?_) (fun h89 => ?_)
              · exfalso
                have g89 : ¬ 5 = 5 := (fun z => h89 ((nI_eq (a := 5) (b := 5) (by omega) (by omega)).mpr z))
                omega
              · skip
                have h89 := Decidable.not_not.mp h89
                have g89 : 5 = 5 := (nI_eq (a := 5) (b := 5) (by omega) (by omega)).mp h89
                refine XG.blk tX9_termOf_ok 51 1 (pc' := 94) (pl' := [some (.ref 0), some (.int (nI fr)), some (.int (nI (fr + n))), some (.int (nI (top - 1))), some (.int (nI (fr + i))), some (.int (nI 5)), some (.int (pile ((top - 1) - 1))), some (.int (pile (top - 1)))]) (st' := [(.int (pile (top - 1)))]) (W1 := (mW v (va_up a 52 pile) b)) (bs := []) rfl rfl rfl ?_
                refine XG.br eX9_termOf_94 (P := ¬ (pile (top - 1)) = 0) (r := []) rfl (tgt := 104) (by decide) (fun h94 => ?_) (fun h94 => ?_)
                · exfalso
                  exact absurd h94 (by first | exact hz | exact fun z => z hz)
                · skip
                  have h94 := Decidable.not_not.mp h94
                  refine XG.blk tX9_termOf_ok 53 4 (pc' := 103) (pl' := [some (.ref 0), some (.int (nI fr)), some (.int (nI (fr + n))), some (.int (nI (top - 1))), some (.int (nI (fr + i))), some (.int (nI 5)), some (.int (pile ((top - 1) - 1))), some (.int (pile (top - 1)))]) (st' := [(.int (nI 0))]) (W1 := (mW (va_up v 53 (nI 1)) (va_up a 52 pile) b)) (bs := [((nI 1) == 0 || (nI 1) == 1)]) rfl rfl (px_all (rfl) rfl) ?_
                  refine XS.iret eX9_termOf_103 rfl rfl ?_
                  exact ⟨pile, by rw [if_pos ht.symm], by rw [← ht]; rfl⟩
            · exfalso
              have g23 : ¬ 2 ≤ 5 := (fun z => h23 ((nI_leI (a := 2) (b := 5) (by omega) (by omega)).mpr z))
              omega
        · rw [if_neg (fun h => hz h.2), hc, show opF (nI 5) (pile (top - 1 - 1)) (pile (top - 1)) = pile (top - 1 - 1) / pile (top - 1) from rfl] at ht
          refine XG.blk tX9_termOf_ok 4 2 (pc' := 8) (pl' := [some (.ref 0), some (.int (nI fr)), some (.int (nI (fr + n))), some (.int (nI top)), some (.int (nI (fr + i))), none, none, none]) (st' := [(.int (nI (fr + n))), (.int (nI (fr + i)))]) (W1 := (mW v (va_up a 52 pile) b)) (bs := []) rfl rfl rfl ?_
          refine XG.br eX9_termOf_8 (P := (nI (fr + n)) ≤ (nI (fr + i))) (r := []) rfl (tgt := 165) (by decide) (fun h8 => ?_) (fun h8 => ?_)
          · exfalso
            have g8 : (fr + n) ≤ (fr + i) := (nI_leI (a := (fr + n)) (b := (fr + i)) (by omega) (by omega)).mp h8
            omega
          · skip
            have g8 : ¬ (fr + n) ≤ (fr + i) := (fun z => h8 ((nI_leI (a := (fr + n)) (b := (fr + i)) (by omega) (by omega)).mpr z))
            have q49 : (nI (fr + i)).toNatClampNeg = (fr + i) := nI_clamp (by omega)
            have q50 : ((a 47) (fr + i)) = (nI 5) := hc
            refine XG.blk tX9_termOf_ok 7 7 (pc' := 23) (pl' := [some (.ref 0), some (.int (nI fr)), some (.int (nI (fr + n))), some (.int (nI top)), some (.int (nI (fr + i))), some (.int ((a 47) (nI (fr + i)).toNatClampNeg)), none, none]) (st' := [(.int (nI 2)), (.int ((a 47) (nI (fr + i)).toNatClampNeg))]) (W1 := (mW v (va_up a 52 pile) b)) (bs := [px_vb (nI (fr + i)) 840]) rfl rfl (by (try simp only [q49, q50]); exact (px_all (px_vbN (by omega) (by decide)) rfl)) ?_
            simp only [q49, q50]
            refine XG.br eX9_termOf_23 (P := (nI 2) ≤ (nI 5)) (r := []) rfl (tgt := 65) (by decide) (fun h23 => ?_) (fun h23 => ?_)
            · skip
              have g23 : 2 ≤ 5 := (nI_leI (a := 2) (b := 5) (by omega) (by omega)).mp h23
              have q51 : ((nI top) + (-1)) = (nI (top - 1)) := px_edec rfl (by omega)
              have q52 : ((nI (top - 1)) - (nI 1)) = (nI ((top - 1) - 1)) := px_esub rfl rfl (by omega)
              have q53 : (nI ((top - 1) - 1)).toNatClampNeg = ((top - 1) - 1) := nI_clamp (by omega)
              have q54 : (nI (top - 1)).toNatClampNeg = (top - 1) := nI_clamp (by omega)
              refine XG.blk tX9_termOf_ok 35 15 (pc' := 89) (pl' := [some (.ref 0), some (.int (nI fr)), some (.int (nI (fr + n))), some (.int ((nI top) + (-1))), some (.int (nI (fr + i))), some (.int (nI 5)), some (.int (pile (((nI top) + (-1)) - (nI 1)).toNatClampNeg)), some (.int (pile ((nI top) + (-1)).toNatClampNeg))]) (st' := [(.int (nI 5)), (.int (nI 5))]) (W1 := (mW v (va_up a 52 pile) b)) (bs := [px_vb (((nI top) + (-1)) - (nI 1)) 400, px_vb ((nI top) + (-1)) 400]) rfl rfl (by (try simp only [q51, q52, q53, q54]); exact (px_all (px_vbN (by omega) (by decide)) (px_all (px_vbN (by omega) (by decide)) rfl))) ?_
              simp only [q51, q52, q53, q54]
              refine XG.br eX9_termOf_89 (P := ¬ (nI 5) = (nI 5)) (r := []) rfl (tgt := 104) (by decide) (fun h89 => ?_) (fun h89 => ?_)
              · exfalso
                have g89 : ¬ 5 = 5 := (fun z => h89 ((nI_eq (a := 5) (b := 5) (by omega) (by omega)).mpr z))
                omega
              · skip
                have h89 := Decidable.not_not.mp h89
                have g89 : 5 = 5 := (nI_eq (a := 5) (b := 5) (by omega) (by omega)).mp h89
                refine XG.blk tX9_termOf_ok 51 1 (pc' := 94) (pl' := [some (.ref 0), some (.int (nI fr)), some (.int (nI (fr + n))), some (.int (nI (top - 1))), some (.int (nI (fr + i))), some (.int (nI 5)), some (.int (pile ((top - 1) - 1))), some (.int (pile (top - 1)))]) (st' := [(.int (pile (top - 1)))]) (W1 := (mW v (va_up a 52 pile) b)) (bs := []) rfl rfl rfl ?_
                refine XG.br eX9_termOf_94 (P := ¬ (pile (top - 1)) = 0) (r := []) rfl (tgt := 104) (by decide) (fun h94 => ?_) (fun h94 => ?_)
                · skip
                  have q55 : ((nI (top - 1)) - (nI 1)) = (nI ((top - 1) - 1)) := px_esub rfl rfl (by omega)
                  refine XG.blk tX9_termOf_ok 58 7 (pc' := 114) (pl' := [some (.ref 0), some (.int (nI fr)), some (.int (nI (fr + n))), some (.int (nI (top - 1))), some (.int (nI (fr + i))), some (.int (nI 5)), some (.int (pile ((top - 1) - 1))), some (.int (pile (top - 1)))]) (st' := [(.int (nI 2)), (.int (nI 5)), (.int ((nI (top - 1)) - (nI 1))), (.ref 36)]) (W1 := (mW v (va_up a 52 pile) b)) (bs := []) rfl rfl rfl ?_
                  simp only [q55]
                  refine XG.br eX9_termOf_114 (P := ¬ (nI 5) = (nI 2)) (r := [(.int (nI ((top - 1) - 1))), (.ref 36)]) rfl (tgt := 125) (by decide) (fun h114 => ?_) (fun h114 => ?_)
                  · skip
                    have g114 : ¬ 5 = 2 := (fun z => h114 ((nI_eq (a := 5) (b := 2) (by omega) (by omega)).mpr z))
                    refine XG.blk tX9_termOf_ok 70 2 (pc' := 128) (pl' := [some (.ref 0), some (.int (nI fr)), some (.int (nI (fr + n))), some (.int (nI (top - 1))), some (.int (nI (fr + i))), some (.int (nI 5)), some (.int (pile ((top - 1) - 1))), some (.int (pile (top - 1)))]) (st' := [(.int (nI 3)), (.int (nI 5)), (.int (nI ((top - 1) - 1))), (.ref 36)]) (W1 := (mW v (va_up a 52 pile) b)) (bs := []) rfl rfl rfl ?_
                    refine XG.br eX9_termOf_128 (P := ¬ (nI 5) = (nI 3)) (r := [(.int (nI ((top - 1) - 1))), (.ref 36)]) rfl (tgt := 139) (by decide) (fun h128 => ?_) (fun h128 => ?_)
                    · skip
                      have g128 : ¬ 5 = 3 := (fun z => h128 ((nI_eq (a := 5) (b := 3) (by omega) (by omega)).mpr z))
                      refine XG.blk tX9_termOf_ok 77 2 (pc' := 142) (pl' := [some (.ref 0), some (.int (nI fr)), some (.int (nI (fr + n))), some (.int (nI (top - 1))), some (.int (nI (fr + i))), some (.int (nI 5)), some (.int (pile ((top - 1) - 1))), some (.int (pile (top - 1)))]) (st' := [(.int (nI 4)), (.int (nI 5)), (.int (nI ((top - 1) - 1))), (.ref 36)]) (W1 := (mW v (va_up a 52 pile) b)) (bs := []) rfl rfl rfl ?_
                      refine XG.br eX9_termOf_142 (P := ¬ (nI 5) = (nI 4)) (r := [(.int (nI ((top - 1) - 1))), (.ref 36)]) rfl (tgt := 153) (by decide) (fun h142 => ?_) (fun h142 => ?_)
                      · skip
                        have g142 : ¬ 5 = 4 := (fun z => h142 ((nI_eq (a := 5) (b := 4) (by omega) (by omega)).mpr z))
                        have q56 : (nI ((top - 1) - 1)).toNatClampNeg = ((top - 1) - 1) := nI_clamp (by omega)
                        have q57 : ((nI (fr + i)) + (nI 1)) = (nI ((fr + i) + 1)) := px_eadd rfl rfl
                        refine XG.blk tX9_termOf_ok 84 5 (pc' := 162) (pl' := [some (.ref 0), some (.int (nI fr)), some (.int (nI (fr + n))), some (.int (nI (top - 1))), some (.int ((nI (fr + i)) + (nI 1))), some (.int (nI 5)), some (.int (pile ((top - 1) - 1))), some (.int (pile (top - 1)))]) (st' := []) (W1 := (mW v (va_up a 52 (upd pile (nI ((top - 1) - 1)).toNatClampNeg ((pile ((top - 1) - 1)) / (pile (top - 1))))) b)) (bs := [!((pile (top - 1)) == 0), px_vb (nI ((top - 1) - 1)) 400]) rfl rfl (by (try simp only [q56, q57]); exact (px_all ((by simpa using hz)) (px_all (px_vbN (by omega) (by decide)) rfl))) ?_
                        simp only [q56, q57]
                        refine XG.goto eX9_termOf_162 (tgt := 5) (by decide) ?_
                        refine XG.weak (pl' := [some (.ref 0), some (.int (nI fr)), some (.int (nI (fr + n))), some (.int (nI (top - 1))), some (.int (nI (fr + (i + 1)))), none, none, none]) ⟨rfl, rfl, rfl, rfl, rfl, trivial⟩ ?_
                        exact ihi (upd pile ((top - 1) - 1) ((pile ((top - 1) - 1)) / (pile (top - 1)))) (top - 1) hw ht
                      · exfalso
                        have h142 := Decidable.not_not.mp h142
                        have g142 : 5 = 4 := (nI_eq (a := 5) (b := 4) (by omega) (by omega)).mp h142
                        omega
                    · exfalso
                      have h128 := Decidable.not_not.mp h128
                      have g128 : 5 = 3 := (nI_eq (a := 5) (b := 3) (by omega) (by omega)).mp h128
                      omega
                  · exfalso
                    have h114 := Decidable.not_not.mp h114
                    have g114 : 5 = 2 := (nI_eq (a := 5) (b := 2) (by omega) (by omega)).mp h114
                    omega
                · exfalso
                  have h94 := Decidable.not_not.mp h94
                  exact absurd h94 (by first | exact hz | exact fun z => z hz)
            · exfalso
              have g23 : ¬ 2 ≤ 5 := (fun z => h23 ((nI_leI (a := 2) (b := 5) (by omega) (by omega)).mpr z))
              omega
