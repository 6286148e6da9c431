/-! the reference: a law tells -/
theorem tmF_indep (cd ci vars : Nat → Int32) : ∀ (n c top : Nat) (p q : Nat → Int32), wfC cd ci n c top → (∀ j, j < top → p j = q j) → tmF cd ci vars n c p top = tmF cd ci vars n c q top := by
  intro n
  induction n with
  | zero => intro c top p q hw h; simp only [wfC] at hw; simp only [tmF]; rw [h 0 (by omega)]
  | succ n ih =>
    intro c top p q hw h
    have push : ∀ x, ∀ j, j < top + 1 → upd p top x j = upd q top x j := by
      intro x j hj
      simp only [upd]
      by_cases e : j = top
      · rw [if_pos e, if_pos e]
      · rw [if_neg e, if_neg e]; exact h j (by omega)
    simp only [wfC] at hw
    simp only [tmF]
    rcases hw with ⟨hc, -, hw⟩ | ⟨hc, -, -, hw⟩ | ⟨h2, -, hc, hw⟩
    · rw [if_pos hc, if_pos hc]; exact ih _ _ _ _ hw (push _)
    · rw [if_neg (by rw [hc]; exact nI_ne (by decide) (by decide) (by decide)), if_pos hc, if_neg (by rw [hc]; exact nI_ne (by decide) (by decide) (by decide)), if_pos hc]; exact ih _ _ _ _ hw (push _)
    · have hne : ¬ cd c = nI 0 ∧ ¬ cd c = nI 1 := by
        rcases hc with hc | hc | hc | hc <;> rw [hc] <;> exact ⟨nI_ne (by decide) (by decide) (by decide), nI_ne (by decide) (by decide) (by decide)⟩
      rw [if_neg hne.1, if_neg hne.2, if_neg hne.1, if_neg hne.2, h (top - 1) (by omega), h (top - 1 - 1) (by omega)]
      by_cases hz : cd c = nI 5 ∧ q (top - 1) = 0
      · rw [if_pos hz, if_pos hz]
      · rw [if_neg hz, if_neg hz]
        refine ih _ _ _ _ hw (fun j hj => ?_)
        simp only [upd]
        by_cases e : j = top - 1 - 1
        · rw [if_pos e, if_pos e]
        · rw [if_neg e, if_neg e]; exact h j (by omega)
/-- a term from c, n codes long -/
def tm0 (cd ci vars : Nat → Int32) (c n : Nat) : Option Int32 := tmF cd ci vars n c (fun _ => 0) 0
theorem tm0_eq {cd ci vars pile : Nat → Int32} {c n : Nat} (hw : wfC cd ci n c 0) : tmF cd ci vars n c pile 0 = tm0 cd ci vars c n := tmF_indep cd ci vars n c 0 _ _ hw (fun j hj => absurd hj (Nat.not_lt_zero j))
theorem con_term_some (d : Nat) (v : Nat → Int32) (a : Nat → Nat → Int32) (b : Nat → Nat → Int64) (fr n : Nat) (x : Int32) (hn : fr + n ≤ 840) (hw : wfC (a 47) (a 48) n fr 0) (h : tm0 (a 47) (a 48) (a 51) fr n = some x) : Con mX9_termOf d [.ref 0, .int (nI fr), .int (nI (fr + n))] (mW v a b) (fun r W' => ∃ pile, W' = mW v (va_up a 52 pile) b ∧ r = some (.int x)) := by
  have h1 := con_termOf d v a b fr n hn hw
  rw [tm0_eq hw, h, if_neg (by intro h; cases h)] at h1
  exact h1
theorem con_term_none (d : Nat) (v : Nat → Int32) (a : Nat → Nat → Int32) (b : Nat → Nat → Int64) (fr n : Nat) (hn : fr + n ≤ 840) (hw : wfC (a 47) (a 48) n fr 0) (h : tm0 (a 47) (a 48) (a 51) fr n = none) : Con mX9_termOf d [.ref 0, .int (nI fr), .int (nI (fr + n))] (mW v a b) (fun r W' => ∃ pile, W' = mW (va_up v 53 (nI 1)) (va_up a 52 pile) b ∧ r = some (.int 0)) := by
  have h1 := con_termOf d v a b fr n hn hw
  rw [tm0_eq hw, h, if_pos rfl] at h1
  exact h1
/-- a branch of a law lies well -/
def wfB (a : Nat → Nat → Int32) (br : Nat) : Prop := ∃ t2 n3, a 44 br = nI t2 ∧ a 45 br = nI (t2 + n3) ∧ t2 + n3 ≤ 840 ∧ wfC (a 47) (a 48) n3 t2 0 ∧ (a 41 br = 0 ∨ (¬ a 41 br = 0 ∧ ∃ t0 n1 n2, a 42 br = nI t0 ∧ a 43 br = nI (t0 + n1) ∧ t2 = t0 + n1 + n2 ∧ wfC (a 47) (a 48) n1 t0 0 ∧ wfC (a 47) (a 48) n2 (t0 + n1) 0))
def ixN (x : Int32) : Nat := x.toNatClampNeg
/-- what m branches from br on tell -/
def lwF (a : Nat → Nat → Int32) (vars : Nat → Int32) : Nat → Nat → Int32
  | 0, _ => 0
  | m + 1, br => if a 41 br = 0 then (tm0 (a 47) (a 48) vars (ixN (a 44 br)) (ixN (a 45 br) - ixN (a 44 br))).getD 0
    else match tm0 (a 47) (a 48) vars (ixN (a 42 br)) (ixN (a 43 br) - ixN (a 42 br)), tm0 (a 47) (a 48) vars (ixN (a 43 br)) (ixN (a 44 br) - ixN (a 43 br)) with
      | some x, some y => if x < y then (tm0 (a 47) (a 48) vars (ixN (a 44 br)) (ixN (a 45 br) - ixN (a 44 br))).getD 0 else lwF a vars m (br + 1)
      | _, _ => 0
set_option maxHeartbeats 400000 in
theorem con_lawTells (d : Nat) (v : Nat → Int32) (a : Nat → Nat → Int32) (b : Nat → Nat → Int64) (at' f m : Nat) (hat : at' < 6) (hf : a 38 at' = nI f) (hl : a 39 at' = nI (f + m)) (hm : f + m ≤ 260) (hB : ∀ br, f ≤ br → br < f + m → wfB a br) (hd : 1 ≤ d) : Con mX9_lawTells d [.ref 0, .int (nI at')] (mW v a b) (fun r W' => ∃ v' pile, W' = mW v' (va_up a 52 pile) b ∧ chg [53] v v' ∧ r = some (.int (lwF a (a 51) m f))) := by
  refine Con.of (by decide) (Nat.le_of_ble_eq_true rfl) ?_
  have q1 : (nI at').toNatClampNeg = at' := nI_clamp (by omega)
  have q2 : ((a 38) at') = (nI f) := hf
  refine XG.blk tX9_lawTells_ok 0 8 (pc' := 12) (pl' := [some (.ref 0), some (.int (nI at')), some (.int ((a 38) (nI at').toNatClampNeg)), none, none]) (st' := []) (W1 := (mW (va_up v 53 (nI 0)) a b)) (bs := [((nI 0) == 0 || (nI 0) == 1), px_vb (nI at') 6]) rfl rfl (by (try simp only [q1, q2]); exact (px_all (rfl) (px_all (px_vbN (by omega) (by decide)) rfl))) ?_
  simp only [q1, q2]
  rw [show mW (va_up v 53 (nI 0)) a b = mW (va_up v 53 (nI 0)) (va_up a 52 (a 52)) b by rw [va_up_id]]
  show XG _ _ _ _ 12 [some (.ref 0), some (.int (nI at')), some (.int (nI (f + 0))), none, none] [] _
  refine px_for m (fun i => ∀ (pile : Nat → Int32) (hr : lwF a (a 51) (m - i) (f + i) = (lwF a (a 51) m f)), XG mX9_lawTells _ 0 0 12 [some (.ref 0), some (.int (nI at')), some (.int (nI (f + i))), none, none] [] (mW (va_up v 53 (nI 0)) (va_up a 52 pile) b)) ?_ ?_ 0 (by omega) (a 52) (by rw [Nat.sub_zero]; rfl)
  · intro pile hr
    rw [Nat.sub_self] at hr
    have q3 : (nI at').toNatClampNeg = at' := nI_clamp (by omega)
    have q4 : ((a 39) at') = (nI (f + m)) := hl
    refine XG.blk tX9_lawTells_ok 8 5 (pc' := 19) (pl' := [some (.ref 0), some (.int (nI at')), some (.int (nI (f + m))), none, none]) (st' := [(.int ((a 39) (nI at').toNatClampNeg)), (.int (nI (f + m)))]) (W1 := (mW (va_up v 53 (nI 0)) (va_up a 52 pile) b)) (bs := [px_vb (nI at') 6]) rfl rfl (by (try simp only [q3, q4]); exact (px_all (px_vbN (by omega) (by decide)) rfl)) ?_
    simp only [q3, q4]
    refine XG.br eX9_lawTells_19 (P := (nI (f + m)) ≤ (nI (f + m))) (r := []) rfl (tgt := 120) (by decide) (fun h19 => ?_) (fun h19 => ?_)
    · skip
      have g19 : (f + m) ≤ (f + m) := (nI_leI (a := (f + m)) (b := (f + m)) (by omega) (by omega)).mp h19
      refine XG.blk tX9_lawTells_ok 70 1 (pc' := 121) (pl' := [some (.ref 0), some (.int (nI at')), some (.int (nI (f + m))), none, none]) (st' := [(.int (nI 0))]) (W1 := (mW (va_up v 53 (nI 0)) (va_up a 52 pile) b)) (bs := []) rfl rfl rfl ?_
      refine XS.iret eX9_lawTells_121 rfl rfl ?_
      exact ⟨_, _, rfl, by first | exact chg.up (by decide) | exact fun k hk => by simp only [va_up]; rw [if_neg (fun e => hk (by rw [e]; decide)), if_neg (fun e => hk (by rw [e]; decide))], by rw [← hr] <;> rfl⟩
    · exfalso
      have g19 : ¬ (f + m) ≤ (f + m) := (fun z => h19 ((nI_leI (a := (f + m)) (b := (f + m)) (by omega) (by omega)).mpr z))
      omega
  · intro i hi ihi pile hr
    rw [show m - i = (m - (i + 1)) + 1 by omega] at hr
    simp only [lwF] at hr
    obtain ⟨t2, n3, h44, h45, h840, w3, ht⟩ := hB (f + i) (by omega) (by omega)
    rw [h44, h45] at hr
    have e3 : ixN (nI t2) = t2 := nI_clamp (by omega)
    have e4 : ixN (nI (t2 + n3)) = t2 + n3 := nI_clamp (by omega)
    rw [e3, e4, show t2 + n3 - t2 = n3 by omega] at hr
    rcases ht with ht | ⟨ht, t0, n1, n2, h42, h43, he, w1, w2⟩
    · rw [if_pos ht] at hr
      cases hw3 : tm0 (a 47) (a 48) (a 51) t2 n3 with
      | none =>
        rw [hw3] at hr
        have q5 : (nI at').toNatClampNeg = at' := nI_clamp (by omega)
        have q6 : ((a 39) at') = (nI (f + m)) := hl
        refine XG.blk tX9_lawTells_ok 8 5 (pc' := 19) (pl' := [some (.ref 0), some (.int (nI at')), some (.int (nI (f + i))), none, none]) (st' := [(.int ((a 39) (nI at').toNatClampNeg)), (.int (nI (f + i)))]) (W1 := (mW (va_up v 53 (nI 0)) (va_up a 52 pile) b)) (bs := [px_vb (nI at') 6]) rfl rfl (by (try simp only [q5, q6]); exact (px_all (px_vbN (by omega) (by decide)) rfl)) ?_
        simp only [q5, q6]
        refine XG.br eX9_lawTells_19 (P := (nI (f + m)) ≤ (nI (f + i))) (r := []) rfl (tgt := 120) (by decide) (fun h19 => ?_) (fun h19 => ?_)
        · exfalso
          have g19 : (f + m) ≤ (f + i) := (nI_leI (a := (f + m)) (b := (f + i)) (by omega) (by omega)).mp h19
          omega
        · skip
          have g19 : ¬ (f + m) ≤ (f + i) := (fun z => h19 ((nI_leI (a := (f + m)) (b := (f + i)) (by omega) (by omega)).mpr z))
          have q7 : (nI (f + i)).toNatClampNeg = (f + i) := nI_clamp (by omega)
          have q8 : ((a 41) (f + i)) = (nI 0) := ht
          refine XG.blk tX9_lawTells_ok 14 4 (pc' := 28) (pl' := [some (.ref 0), some (.int (nI at')), some (.int (nI (f + i))), none, none]) (st' := [(.int ((a 41) (nI (f + i)).toNatClampNeg))]) (W1 := (mW (va_up v 53 (nI 0)) (va_up a 52 pile) b)) (bs := [px_vb (nI (f + i)) 260]) rfl rfl (by (try simp only [q7, q8]); exact (px_all (px_vbN (by omega) (by decide)) rfl)) ?_
          simp only [q7, q8]
          refine XG.br eX9_lawTells_28 (P := (nI 0) = 0) (r := []) rfl (tgt := 84) (by decide) (fun h28 => ?_) (fun h28 => ?_)
          · skip
            have g28 : 0 = 0 := (nI_eq (a := 0) (b := 0) (by omega) (by omega)).mp h28
            have q9 : (nI (f + i)).toNatClampNeg = (f + i) := nI_clamp (by omega)
            have q10 : ((a 44) (f + i)) = (nI t2) := h44
            have q11 : ((a 45) (f + i)) = (nI (t2 + n3)) := h45
            refine XG.blk tX9_lawTells_ok 50 9 (pc' := 97) (pl' := [some (.ref 0), some (.int (nI at')), some (.int (nI (f + i))), none, none]) (st' := [(.int ((a 45) (nI (f + i)).toNatClampNeg)), (.int ((a 44) (nI (f + i)).toNatClampNeg)), (.ref 0)]) (W1 := (mW (va_up v 53 (nI 0)) (va_up a 52 pile) b)) (bs := [px_vb (nI (f + i)) 260, px_vb (nI (f + i)) 260]) rfl rfl (by (try simp only [q9, q10, q11]); exact (px_all (px_vbN (by omega) (by decide)) (px_all (px_vbN (by omega) (by decide)) rfl))) ?_
            simp only [q9, q10, q11]
            refine XG.callV0 eX9_lawTells_97 kl_X9_366 (con_term_none (d - 1) (va_up v 53 (nI 0)) (va_up a 52 pile) b t2 n3 (by omega) w3 hw3) (px_fitS (by omega)) rfl rfl rfl (Nat.le_of_ble_eq_true rfl) (fun r9 W9 hp9 hl9 => ?_)
            obtain ⟨pile1, rfl, rfl⟩ := hp9
            refine XG.blk tX9_lawTells_ok 60 3 (pc' := 105) (pl' := [some (.ref 0), some (.int (nI at')), some (.int (nI (f + i))), some (.int 0), none]) (st' := [(.int (nI 1))]) (W1 := (mW (va_up v 53 (nI 1)) (va_up a 52 pile1) b)) (bs := []) rfl rfl rfl ?_
            refine XG.br eX9_lawTells_105 (P := (nI 1) = 0) (r := []) rfl (tgt := 112) (by decide) (fun h105 => ?_) (fun h105 => ?_)
            · exfalso
              have g105 : 1 = 0 := (nI_eq (a := 1) (b := 0) (by omega) (by omega)).mp h105
              omega
            · skip
              have g105 : ¬ 1 = 0 := (fun z => h105 ((nI_eq (a := 1) (b := 0) (by omega) (by omega)).mpr z))
              refine XG.blk tX9_lawTells_ok 64 1 (pc' := 109) (pl' := [some (.ref 0), some (.int (nI at')), some (.int (nI (f + i))), some (.int 0), none]) (st' := [(.int (nI 0))]) (W1 := (mW (va_up v 53 (nI 1)) (va_up a 52 pile1) b)) (bs := []) rfl rfl rfl ?_
              refine XG.goto eX9_lawTells_109 (tgt := 113) (by decide) ?_
              refine XS.iret eX9_lawTells_113 rfl rfl ?_
              exact ⟨_, _, rfl, by first | exact chg.up (by decide) | exact fun k hk => by simp only [va_up]; rw [if_neg (fun e => hk (by rw [e]; decide)), if_neg (fun e => hk (by rw [e]; decide))], by rw [← hr] <;> rfl⟩
          · exfalso
            have g28 : ¬ 0 = 0 := (fun z => h28 ((nI_eq (a := 0) (b := 0) (by omega) (by omega)).mpr z))
            omega
      | some z =>
        rw [hw3] at hr
        have q12 : (nI at').toNatClampNeg = at' := nI_clamp (by omega)
        have q13 : ((a 39) at') = (nI (f + m)) := hl
        refine XG.blk tX9_lawTells_ok 8 5 (pc' := 19) (pl' := [some (.ref 0), some (.int (nI at')), some (.int (nI (f + i))), none, none]) (st' := [(.int ((a 39) (nI at').toNatClampNeg)), (.int (nI (f + i)))]) (W1 := (mW (va_up v 53 (nI 0)) (va_up a 52 pile) b)) (bs := [px_vb (nI at') 6]) rfl rfl (by (try simp only [q12, q13]); exact (px_all (px_vbN (by omega) (by decide)) rfl)) ?_
        simp only [q12, q13]
        refine XG.br eX9_lawTells_19 (P := (nI (f + m)) ≤ (nI (f + i))) (r := []) rfl (tgt := 120) (by decide) (fun h19 => ?_) (fun h19 => ?_)
        · exfalso
          have g19 : (f + m) ≤ (f + i) := (nI_leI (a := (f + m)) (b := (f + i)) (by omega) (by omega)).mp h19
          omega
        · skip
          have g19 : ¬ (f + m) ≤ (f + i) := (fun z => h19 ((nI_leI (a := (f + m)) (b := (f + i)) (by omega) (by omega)).mpr z))
          have q14 : (nI (f + i)).toNatClampNeg = (f + i) := nI_clamp (by omega)
          have q15 : ((a 41) (f + i)) = (nI 0) := ht
          refine XG.blk tX9_lawTells_ok 14 4 (pc' := 28) (pl' := [some (.ref 0), some (.int (nI at')), some (.int (nI (f + i))), none, none]) (st' := [(.int ((a 41) (nI (f + i)).toNatClampNeg))]) (W1 := (mW (va_up v 53 (nI 0)) (va_up a 52 pile) b)) (bs := [px_vb (nI (f + i)) 260]) rfl rfl (by (try simp only [q14, q15]); exact (px_all (px_vbN (by omega) (by decide)) rfl)) ?_
          simp only [q14, q15]
          refine XG.br eX9_lawTells_28 (P := (nI 0) = 0) (r := []) rfl (tgt := 84) (by decide) (fun h28 => ?_) (fun h28 => ?_)
          · skip
            have g28 : 0 = 0 := (nI_eq (a := 0) (b := 0) (by omega) (by omega)).mp h28
            have q16 : (nI (f + i)).toNatClampNeg = (f + i) := nI_clamp (by omega)
            have q17 : ((a 44) (f + i)) = (nI t2) := h44
            have q18 : ((a 45) (f + i)) = (nI (t2 + n3)) := h45
            refine XG.blk tX9_lawTells_ok 50 9 (pc' := 97) (pl' := [some (.ref 0), some (.int (nI at')), some (.int (nI (f + i))), none, none]) (st' := [(.int ((a 45) (nI (f + i)).toNatClampNeg)), (.int ((a 44) (nI (f + i)).toNatClampNeg)), (.ref 0)]) (W1 := (mW (va_up v 53 (nI 0)) (va_up a 52 pile) b)) (bs := [px_vb (nI (f + i)) 260, px_vb (nI (f + i)) 260]) rfl rfl (by (try simp only [q16, q17, q18]); exact (px_all (px_vbN (by omega) (by decide)) (px_all (px_vbN (by omega) (by decide)) rfl))) ?_
            simp only [q16, q17, q18]
            refine XG.callV0 eX9_lawTells_97 kl_X9_366 (con_term_some (d - 1) (va_up v 53 (nI 0)) (va_up a 52 pile) b t2 n3 z (by omega) w3 hw3) (px_fitS (by omega)) rfl rfl rfl (Nat.le_of_ble_eq_true rfl) (fun r9 W9 hp9 hl9 => ?_)
            obtain ⟨pile2, rfl, rfl⟩ := hp9
            refine XG.blk tX9_lawTells_ok 60 3 (pc' := 105) (pl' := [some (.ref 0), some (.int (nI at')), some (.int (nI (f + i))), some (.int z), none]) (st' := [(.int (nI 0))]) (W1 := (mW (va_up v 53 (nI 0)) (va_up a 52 pile2) b)) (bs := []) rfl rfl rfl ?_
            refine XG.br eX9_lawTells_105 (P := (nI 0) = 0) (r := []) rfl (tgt := 112) (by decide) (fun h105 => ?_) (fun h105 => ?_)
            · skip
              have g105 : 0 = 0 := (nI_eq (a := 0) (b := 0) (by omega) (by omega)).mp h105
              refine XG.blk tX9_lawTells_ok 66 1 (pc' := 113) (pl' := [some (.ref 0), some (.int (nI at')), some (.int (nI (f + i))), some (.int z), none]) (st' := [(.int z)]) (W1 := (mW (va_up v 53 (nI 0)) (va_up a 52 pile2) b)) (bs := []) rfl rfl rfl ?_
              refine XS.iret eX9_lawTells_113 rfl rfl ?_
              exact ⟨_, _, rfl, by first | exact chg.up (by decide) | exact fun k hk => by simp only [va_up]; rw [if_neg (fun e => hk (by rw [e]; decide)), if_neg (fun e => hk (by rw [e]; decide))], by rw [← hr] <;> rfl⟩
            · exfalso
              have g105 : ¬ 0 = 0 := (fun z => h105 ((nI_eq (a := 0) (b := 0) (by omega) (by omega)).mpr z))
              omega
          · exfalso
            have g28 : ¬ 0 = 0 := (fun z => h28 ((nI_eq (a := 0) (b := 0) (by omega) (by omega)).mpr z))
            omega
    · subst he
      rw [if_neg ht, h42, h43] at hr
      have e1 : ixN (nI t0) = t0 := nI_clamp (by omega)
      have e2 : ixN (nI (t0 + n1)) = t0 + n1 := nI_clamp (by omega)
      rw [e1, e2, show t0 + n1 - t0 = n1 by omega, show t0 + n1 + n2 - (t0 + n1) = n2 by omega] at hr
      cases hu : tm0 (a 47) (a 48) (a 51) t0 n1 with
      | none =>
        cases hv : tm0 (a 47) (a 48) (a 51) (t0 + n1) n2 with
        | none =>
          rw [hu, hv] at hr
          have q19 : (nI at').toNatClampNeg = at' := nI_clamp (by omega)
          have q20 : ((a 39) at') = (nI (f + m)) := hl
          refine XG.blk tX9_lawTells_ok 8 5 (pc' := 19) (pl' := [some (.ref 0), some (.int (nI at')), some (.int (nI (f + i))), none, none]) (st' := [(.int ((a 39) (nI at').toNatClampNeg)), (.int (nI (f + i)))]) (W1 := (mW (va_up v 53 (nI 0)) (va_up a 52 pile) b)) (bs := [px_vb (nI at') 6]) rfl rfl (by (try simp only [q19, q20]); exact (px_all (px_vbN (by omega) (by decide)) rfl)) ?_
          simp only [q19, q20]
          refine XG.br eX9_lawTells_19 (P := (nI (f + m)) ≤ (nI (f + i))) (r := []) rfl (tgt := 120) (by decide) (fun h19 => ?_) (fun h19 => ?_)
          · exfalso
            have g19 : (f + m) ≤ (f + i) := (nI_leI (a := (f + m)) (b := (f + i)) (by omega) (by omega)).mp h19
            omega
          · skip
            have g19 : ¬ (f + m) ≤ (f + i) := (fun z => h19 ((nI_leI (a := (f + m)) (b := (f + i)) (by omega) (by omega)).mpr z))
            have q21 : (nI (f + i)).toNatClampNeg = (f + i) := nI_clamp (by omega)
            refine XG.blk tX9_lawTells_ok 14 4 (pc' := 28) (pl' := [some (.ref 0), some (.int (nI at')), some (.int (nI (f + i))), none, none]) (st' := [(.int ((a 41) (nI (f + i)).toNatClampNeg))]) (W1 := (mW (va_up v 53 (nI 0)) (va_up a 52 pile) b)) (bs := [px_vb (nI (f + i)) 260]) rfl rfl (by (try simp only [q21]); exact (px_all (px_vbN (by omega) (by decide)) rfl)) ?_
            simp only [q21]
            refine XG.br eX9_lawTells_28 (P := ((a 41) (f + i)) = 0) (r := []) rfl (tgt := 84) (by decide) (fun h28 => ?_) (fun h28 => ?_)
            · exfalso
              first | exact absurd h28 ht | exact h28 ht | exact absurd hxy h78 | exact h78 hxy | exact hxy h78 | omega
            · skip
              have q22 : (nI (f + i)).toNatClampNeg = (f + i) := nI_clamp (by omega)
              have q23 : ((a 42) (f + i)) = (nI t0) := h42
              have q24 : ((a 43) (f + i)) = (nI (t0 + n1)) := h43
              refine XG.blk tX9_lawTells_ok 19 9 (pc' := 44) (pl' := [some (.ref 0), some (.int (nI at')), some (.int (nI (f + i))), none, none]) (st' := [(.int ((a 43) (nI (f + i)).toNatClampNeg)), (.int ((a 42) (nI (f + i)).toNatClampNeg)), (.ref 0)]) (W1 := (mW (va_up v 53 (nI 0)) (va_up a 52 pile) b)) (bs := [px_vb (nI (f + i)) 260, px_vb (nI (f + i)) 260]) rfl rfl (by (try simp only [q22, q23, q24]); exact (px_all (px_vbN (by omega) (by decide)) (px_all (px_vbN (by omega) (by decide)) rfl))) ?_
              simp only [q22, q23, q24]
              refine XG.callV0 eX9_lawTells_44 kl_X9_366 (con_term_none (d - 1) (va_up v 53 (nI 0)) (va_up a 52 pile) b t0 n1 (by omega) w1 hu) (px_fitS (by omega)) rfl rfl rfl (Nat.le_of_ble_eq_true rfl) (fun r9 W9 hp9 hl9 => ?_)
              obtain ⟨pile3, rfl, rfl⟩ := hp9
              have q25 : (nI (f + i)).toNatClampNeg = (f + i) := nI_clamp (by omega)
              have q26 : ((a 43) (f + i)) = (nI (t0 + n1)) := h43
              have q27 : ((a 44) (f + i)) = (nI (t0 + n1 + n2)) := h44
              refine XG.blk tX9_lawTells_ok 29 10 (pc' := 61) (pl' := [some (.ref 0), some (.int (nI at')), some (.int (nI (f + i))), some (.int 0), none]) (st' := [(.int ((a 44) (nI (f + i)).toNatClampNeg)), (.int ((a 43) (nI (f + i)).toNatClampNeg)), (.ref 0)]) (W1 := (mW (va_up v 53 (nI 1)) (va_up a 52 pile3) b)) (bs := [px_vb (nI (f + i)) 260, px_vb (nI (f + i)) 260]) rfl rfl (by (try simp only [q25, q26, q27]); exact (px_all (px_vbN (by omega) (by decide)) (px_all (px_vbN (by omega) (by decide)) rfl))) ?_
              simp only [q25, q26, q27]
              refine XG.callV0 eX9_lawTells_61 kl_X9_366 (con_term_none (d - 1) (va_up v 53 (nI 1)) (va_up a 52 pile3) b (t0 + n1) n2 (by omega) w2 hv) (px_fitS (by omega)) rfl rfl rfl (Nat.le_of_ble_eq_true rfl) (fun r9 W9 hp9 hl9 => ?_)
              obtain ⟨pile4, rfl, rfl⟩ := hp9
              refine XG.blk tX9_lawTells_ok 40 3 (pc' := 70) (pl' := [some (.ref 0), some (.int (nI at')), some (.int (nI (f + i))), some (.int 0), some (.int 0)]) (st' := [(.int (nI 1))]) (W1 := (mW (va_up v 53 (nI 1)) (va_up a 52 pile4) b)) (bs := []) rfl rfl rfl ?_
              refine XG.br eX9_lawTells_70 (P := (nI 1) = 0) (r := []) rfl (tgt := 75) (by decide) (fun h70 => ?_) (fun h70 => ?_)
              · exfalso
                have g70 : 1 = 0 := (nI_eq (a := 1) (b := 0) (by omega) (by omega)).mp h70
                omega
              · skip
                have g70 : ¬ 1 = 0 := (fun z => h70 ((nI_eq (a := 1) (b := 0) (by omega) (by omega)).mpr z))
                refine XG.blk tX9_lawTells_ok 44 1 (pc' := 74) (pl' := [some (.ref 0), some (.int (nI at')), some (.int (nI (f + i))), some (.int 0), some (.int 0)]) (st' := [(.int (nI 0))]) (W1 := (mW (va_up v 53 (nI 1)) (va_up a 52 pile4) b)) (bs := []) rfl rfl rfl ?_
                refine XS.iret eX9_lawTells_74 rfl rfl ?_
                exact ⟨_, _, rfl, by first | exact chg.up (by decide) | exact fun k hk => by simp only [va_up]; rw [if_neg (fun e => hk (by rw [e]; decide)), if_neg (fun e => hk (by rw [e]; decide))], by rw [← hr] <;> rfl⟩
        | some y =>
          rw [hu, hv] at hr
          have q28 : (nI at').toNatClampNeg = at' := nI_clamp (by omega)
          have q29 : ((a 39) at') = (nI (f + m)) := hl
          refine XG.blk tX9_lawTells_ok 8 5 (pc' := 19) (pl' := [some (.ref 0), some (.int (nI at')), some (.int (nI (f + i))), none, none]) (st' := [(.int ((a 39) (nI at').toNatClampNeg)), (.int (nI (f + i)))]) (W1 := (mW (va_up v 53 (nI 0)) (va_up a 52 pile) b)) (bs := [px_vb (nI at') 6]) rfl rfl (by (try simp only [q28, q29]); exact (px_all (px_vbN (by omega) (by decide)) rfl)) ?_
          simp only [q28, q29]
          refine XG.br eX9_lawTells_19 (P := (nI (f + m)) ≤ (nI (f + i))) (r := []) rfl (tgt := 120) (by decide) (fun h19 => ?_) (fun h19 => ?_)
          · exfalso
            have g19 : (f + m) ≤ (f + i) := (nI_leI (a := (f + m)) (b := (f + i)) (by omega) (by omega)).mp h19
            omega
          · skip
            have g19 : ¬ (f + m) ≤ (f + i) := (fun z => h19 ((nI_leI (a := (f + m)) (b := (f + i)) (by omega) (by omega)).mpr z))
            have q30 : (nI (f + i)).toNatClampNeg = (f + i) := nI_clamp (by omega)
            refine XG.blk tX9_lawTells_ok 14 4 (pc' := 28) (pl' := [some (.ref 0), some (.int (nI at')), some (.int (nI (f + i))), none, none]) (st' := [(.int ((a 41) (nI (f + i)).toNatClampNeg))]) (W1 := (mW (va_up v 53 (nI 0)) (va_up a 52 pile) b)) (bs := [px_vb (nI (f + i)) 260]) rfl rfl (by (try simp only [q30]); exact (px_all (px_vbN (by omega) (by decide)) rfl)) ?_
            simp only [q30]
            refine XG.br eX9_lawTells_28 (P := ((a 41) (f + i)) = 0) (r := []) rfl (tgt := 84) (by decide) (fun h28 => ?_) (fun h28 => ?_)
            · exfalso
              first | exact absurd h28 ht | exact h28 ht | exact absurd hxy h78 | exact h78 hxy | exact hxy h78 | omega
            · skip
              have q31 : (nI (f + i)).toNatClampNeg = (f + i) := nI_clamp (by omega)
              have q32 : ((a 42) (f + i)) = (nI t0) := h42
              have q33 : ((a 43) (f + i)) = (nI (t0 + n1)) := h43
              refine XG.blk tX9_lawTells_ok 19 9 (pc' := 44) (pl' := [some (.ref 0), some (.int (nI at')), some (.int (nI (f + i))), none, none]) (st' := [(.int ((a 43) (nI (f + i)).toNatClampNeg)), (.int ((a 42) (nI (f + i)).toNatClampNeg)), (.ref 0)]) (W1 := (mW (va_up v 53 (nI 0)) (va_up a 52 pile) b)) (bs := [px_vb (nI (f + i)) 260, px_vb (nI (f + i)) 260]) rfl rfl (by (try simp only [q31, q32, q33]); exact (px_all (px_vbN (by omega) (by decide)) (px_all (px_vbN (by omega) (by decide)) rfl))) ?_
              simp only [q31, q32, q33]
              refine XG.callV0 eX9_lawTells_44 kl_X9_366 (con_term_none (d - 1) (va_up v 53 (nI 0)) (va_up a 52 pile) b t0 n1 (by omega) w1 hu) (px_fitS (by omega)) rfl rfl rfl (Nat.le_of_ble_eq_true rfl) (fun r9 W9 hp9 hl9 => ?_)
              obtain ⟨pile5, rfl, rfl⟩ := hp9
              have q34 : (nI (f + i)).toNatClampNeg = (f + i) := nI_clamp (by omega)
              have q35 : ((a 43) (f + i)) = (nI (t0 + n1)) := h43
              have q36 : ((a 44) (f + i)) = (nI (t0 + n1 + n2)) := h44
              refine XG.blk tX9_lawTells_ok 29 10 (pc' := 61) (pl' := [some (.ref 0), some (.int (nI at')), some (.int (nI (f + i))), some (.int 0), none]) (st' := [(.int ((a 44) (nI (f + i)).toNatClampNeg)), (.int ((a 43) (nI (f + i)).toNatClampNeg)), (.ref 0)]) (W1 := (mW (va_up v 53 (nI 1)) (va_up a 52 pile5) b)) (bs := [px_vb (nI (f + i)) 260, px_vb (nI (f + i)) 260]) rfl rfl (by (try simp only [q34, q35, q36]); exact (px_all (px_vbN (by omega) (by decide)) (px_all (px_vbN (by omega) (by decide)) rfl))) ?_
              simp only [q34, q35, q36]
              refine XG.callV0 eX9_lawTells_61 kl_X9_366 (con_term_some (d - 1) (va_up v 53 (nI 1)) (va_up a 52 pile5) b (t0 + n1) n2 y (by omega) w2 hv) (px_fitS (by omega)) rfl rfl rfl (Nat.le_of_ble_eq_true rfl) (fun r9 W9 hp9 hl9 => ?_)
              obtain ⟨pile6, rfl, rfl⟩ := hp9
              refine XG.blk tX9_lawTells_ok 40 3 (pc' := 70) (pl' := [some (.ref 0), some (.int (nI at')), some (.int (nI (f + i))), some (.int 0), some (.int y)]) (st' := [(.int (nI 1))]) (W1 := (mW (va_up v 53 (nI 1)) (va_up a 52 pile6) b)) (bs := []) rfl rfl rfl ?_
              refine XG.br eX9_lawTells_70 (P := (nI 1) = 0) (r := []) rfl (tgt := 75) (by decide) (fun h70 => ?_) (fun h70 => ?_)
              · exfalso
                have g70 : 1 = 0 := (nI_eq (a := 1) (b := 0) (by omega) (by omega)).mp h70
                omega
              · skip
                have g70 : ¬ 1 = 0 := (fun z => h70 ((nI_eq (a := 1) (b := 0) (by omega) (by omega)).mpr z))
                refine XG.blk tX9_lawTells_ok 44 1 (pc' := 74) (pl' := [some (.ref 0), some (.int (nI at')), some (.int (nI (f + i))), some (.int 0), some (.int y)]) (st' := [(.int (nI 0))]) (W1 := (mW (va_up v 53 (nI 1)) (va_up a 52 pile6) b)) (bs := []) rfl rfl rfl ?_
                refine XS.iret eX9_lawTells_74 rfl rfl ?_
                exact ⟨_, _, rfl, by first | exact chg.up (by decide) | exact fun k hk => by simp only [va_up]; rw [if_neg (fun e => hk (by rw [e]; decide)), if_neg (fun e => hk (by rw [e]; decide))], by rw [← hr] <;> rfl⟩
      | some x =>
        cases hv : tm0 (a 47) (a 48) (a 51) (t0 + n1) n2 with
        | none =>
          rw [hu, hv] at hr
          have q37 : (nI at').toNatClampNeg = at' := nI_clamp (by omega)
          have q38 : ((a 39) at') = (nI (f + m)) := hl
          refine XG.blk tX9_lawTells_ok 8 5 (pc' := 19) (pl' := [some (.ref 0), some (.int (nI at')), some (.int (nI (f + i))), none, none]) (st' := [(.int ((a 39) (nI at').toNatClampNeg)), (.int (nI (f + i)))]) (W1 := (mW (va_up v 53 (nI 0)) (va_up a 52 pile) b)) (bs := [px_vb (nI at') 6]) rfl rfl (by (try simp only [q37, q38]); exact (px_all (px_vbN (by omega) (by decide)) rfl)) ?_
          simp only [q37, q38]
          refine XG.br eX9_lawTells_19 (P := (nI (f + m)) ≤ (nI (f + i))) (r := []) rfl (tgt := 120) (by decide) (fun h19 => ?_) (fun h19 => ?_)
          · exfalso
            have g19 : (f + m) ≤ (f + i) := (nI_leI (a := (f + m)) (b := (f + i)) (by omega) (by omega)).mp h19
            omega
          · skip
            have g19 : ¬ (f + m) ≤ (f + i) := (fun z => h19 ((nI_leI (a := (f + m)) (b := (f + i)) (by omega) (by omega)).mpr z))
            have q39 : (nI (f + i)).toNatClampNeg = (f + i) := nI_clamp (by omega)
            refine XG.blk tX9_lawTells_ok 14 4 (pc' := 28) (pl' := [some (.ref 0), some (.int (nI at')), some (.int (nI (f + i))), none, none]) (st' := [(.int ((a 41) (nI (f + i)).toNatClampNeg))]) (W1 := (mW (va_up v 53 (nI 0)) (va_up a 52 pile) b)) (bs := [px_vb (nI (f + i)) 260]) rfl rfl (by (try simp only [q39]); exact (px_all (px_vbN (by omega) (by decide)) rfl)) ?_
            simp only [q39]
            refine XG.br eX9_lawTells_28 (P := ((a 41) (f + i)) = 0) (r := []) rfl (tgt := 84) (by decide) (fun h28 => ?_) (fun h28 => ?_)
            · exfalso
              first | exact absurd h28 ht | exact h28 ht | exact absurd hxy h78 | exact h78 hxy | exact hxy h78 | omega
            · skip
              have q40 : (nI (f + i)).toNatClampNeg = (f + i) := nI_clamp (by omega)
              have q41 : ((a 42) (f + i)) = (nI t0) := h42
              have q42 : ((a 43) (f + i)) = (nI (t0 + n1)) := h43
              refine XG.blk tX9_lawTells_ok 19 9 (pc' := 44) (pl' := [some (.ref 0), some (.int (nI at')), some (.int (nI (f + i))), none, none]) (st' := [(.int ((a 43) (nI (f + i)).toNatClampNeg)), (.int ((a 42) (nI (f + i)).toNatClampNeg)), (.ref 0)]) (W1 := (mW (va_up v 53 (nI 0)) (va_up a 52 pile) b)) (bs := [px_vb (nI (f + i)) 260, px_vb (nI (f + i)) 260]) rfl rfl (by (try simp only [q40, q41, q42]); exact (px_all (px_vbN (by omega) (by decide)) (px_all (px_vbN (by omega) (by decide)) rfl))) ?_
              simp only [q40, q41, q42]
              refine XG.callV0 eX9_lawTells_44 kl_X9_366 (con_term_some (d - 1) (va_up v 53 (nI 0)) (va_up a 52 pile) b t0 n1 x (by omega) w1 hu) (px_fitS (by omega)) rfl rfl rfl (Nat.le_of_ble_eq_true rfl) (fun r9 W9 hp9 hl9 => ?_)
              obtain ⟨pile7, rfl, rfl⟩ := hp9
              have q43 : (nI (f + i)).toNatClampNeg = (f + i) := nI_clamp (by omega)
              have q44 : ((a 43) (f + i)) = (nI (t0 + n1)) := h43
              have q45 : ((a 44) (f + i)) = (nI (t0 + n1 + n2)) := h44
              refine XG.blk tX9_lawTells_ok 29 10 (pc' := 61) (pl' := [some (.ref 0), some (.int (nI at')), some (.int (nI (f + i))), some (.int x), none]) (st' := [(.int ((a 44) (nI (f + i)).toNatClampNeg)), (.int ((a 43) (nI (f + i)).toNatClampNeg)), (.ref 0)]) (W1 := (mW (va_up v 53 (nI 0)) (va_up a 52 pile7) b)) (bs := [px_vb (nI (f + i)) 260, px_vb (nI (f + i)) 260]) rfl rfl (by (try simp only [q43, q44, q45]); exact (px_all (px_vbN (by omega) (by decide)) (px_all (px_vbN (by omega) (by decide)) rfl))) ?_
              simp only [q43, q44, q45]
              refine XG.callV0 eX9_lawTells_61 kl_X9_366 (con_term_none (d - 1) (va_up v 53 (nI 0)) (va_up a 52 pile7) b (t0 + n1) n2 (by omega) w2 hv) (px_fitS (by omega)) rfl rfl rfl (Nat.le_of_ble_eq_true rfl) (fun r9 W9 hp9 hl9 => ?_)
              obtain ⟨pile8, rfl, rfl⟩ := hp9
              refine XG.blk tX9_lawTells_ok 40 3 (pc' := 70) (pl' := [some (.ref 0), some (.int (nI at')), some (.int (nI (f + i))), some (.int x), some (.int 0)]) (st' := [(.int (nI 1))]) (W1 := (mW (va_up v 53 (nI 1)) (va_up a 52 pile8) b)) (bs := []) rfl rfl rfl ?_
              refine XG.br eX9_lawTells_70 (P := (nI 1) = 0) (r := []) rfl (tgt := 75) (by decide) (fun h70 => ?_) (fun h70 => ?_)
              · exfalso
                have g70 : 1 = 0 := (nI_eq (a := 1) (b := 0) (by omega) (by omega)).mp h70
                omega
              · skip
                have g70 : ¬ 1 = 0 := (fun z => h70 ((nI_eq (a := 1) (b := 0) (by omega) (by omega)).mpr z))
                refine XG.blk tX9_lawTells_ok 44 1 (pc' := 74) (pl' := [some (.ref 0), some (.int (nI at')), some (.int (nI (f + i))), some (.int x), some (.int 0)]) (st' := [(.int (nI 0))]) (W1 := (mW (va_up v 53 (nI 1)) (va_up a 52 pile8) b)) (bs := []) rfl rfl rfl ?_
                refine XS.iret eX9_lawTells_74 rfl rfl ?_
                exact ⟨_, _, rfl, by first | exact chg.up (by decide) | exact fun k hk => by simp only [va_up]; rw [if_neg (fun e => hk (by rw [e]; decide)), if_neg (fun e => hk (by rw [e]; decide))], by rw [← hr] <;> rfl⟩
        | some y =>
          rw [hu, hv] at hr
          have hr : (if x < y then (tm0 (a 47) (a 48) (a 51) (t0 + n1 + n2) n3).getD 0 else lwF a (a 51) (m - (i + 1)) (f + i + 1)) = (lwF a (a 51) m f) := hr
          by_cases hxy : x < y
          · rw [if_pos hxy] at hr
            cases hw3 : tm0 (a 47) (a 48) (a 51) (t0 + n1 + n2) n3 with
            | none =>
              rw [hw3] at hr
              have q46 : (nI at').toNatClampNeg = at' := nI_clamp (by omega)
              have q47 : ((a 39) at') = (nI (f + m)) := hl
              refine XG.blk tX9_lawTells_ok 8 5 (pc' := 19) (pl' := [some (.ref 0), some (.int (nI at')), some (.int (nI (f + i))), none, none]) (st' := [(.int ((a 39) (nI at').toNatClampNeg)), (.int (nI (f + i)))]) (W1 := (mW (va_up v 53 (nI 0)) (va_up a 52 pile) b)) (bs := [px_vb (nI at') 6]) rfl rfl (by (try simp only [q46, q47]); exact (px_all (px_vbN (by omega) (by decide)) rfl)) ?_
              simp only [q46, q47]
              refine XG.br eX9_lawTells_19 (P := (nI (f + m)) ≤ (nI (f + i))) (r := []) rfl (tgt := 120) (by decide) (fun h19 => ?_) (fun h19 => ?_)
              · exfalso
                have g19 : (f + m) ≤ (f + i) := (nI_leI (a := (f + m)) (b := (f + i)) (by omega) (by omega)).mp h19
                omega
              · skip
                have g19 : ¬ (f + m) ≤ (f + i) := (fun z => h19 ((nI_leI (a := (f + m)) (b := (f + i)) (by omega) (by omega)).mpr z))
                have q48 : (nI (f + i)).toNatClampNeg = (f + i) := nI_clamp (by omega)
                refine XG.blk tX9_lawTells_ok 14 4 (pc' := 28) (pl' := [some (.ref 0), some (.int (nI at')), some (.int (nI (f + i))), none, none]) (st' := [(.int ((a 41) (nI (f + i)).toNatClampNeg))]) (W1 := (mW (va_up v 53 (nI 0)) (va_up a 52 pile) b)) (bs := [px_vb (nI (f + i)) 260]) rfl rfl (by (try simp only [q48]); exact (px_all (px_vbN (by omega) (by decide)) rfl)) ?_
                simp only [q48]
                refine XG.br eX9_lawTells_28 (P := ((a 41) (f + i)) = 0) (r := []) rfl (tgt := 84) (by decide) (fun h28 => ?_) (fun h28 => ?_)
                · exfalso
                  first | exact absurd h28 ht | exact h28 ht | exact absurd hxy h78 | exact h78 hxy | exact hxy h78 | omega
                · skip
                  have q49 : (nI (f + i)).toNatClampNeg = (f + i) := nI_clamp (by omega)
                  have q50 : ((a 42) (f + i)) = (nI t0) := h42
                  have q51 : ((a 43) (f + i)) = (nI (t0 + n1)) := h43
                  refine XG.blk tX9_lawTells_ok 19 9 (pc' := 44) (pl' := [some (.ref 0), some (.int (nI at')), some (.int (nI (f + i))), none, none]) (st' := [(.int ((a 43) (nI (f + i)).toNatClampNeg)), (.int ((a 42) (nI (f + i)).toNatClampNeg)), (.ref 0)]) (W1 := (mW (va_up v 53 (nI 0)) (va_up a 52 pile) b)) (bs := [px_vb (nI (f + i)) 260, px_vb (nI (f + i)) 260]) rfl rfl (by (try simp only [q49, q50, q51]); exact (px_all (px_vbN (by omega) (by decide)) (px_all (px_vbN (by omega) (by decide)) rfl))) ?_
                  simp only [q49, q50, q51]
                  refine XG.callV0 eX9_lawTells_44 kl_X9_366 (con_term_some (d - 1) (va_up v 53 (nI 0)) (va_up a 52 pile) b t0 n1 x (by omega) w1 hu) (px_fitS (by omega)) rfl rfl rfl (Nat.le_of_ble_eq_true rfl) (fun r9 W9 hp9 hl9 => ?_)
                  obtain ⟨pile9, rfl, rfl⟩ := hp9
                  have q52 : (nI (f + i)).toNatClampNeg = (f + i) := nI_clamp (by omega)
                  have q53 : ((a 43) (f + i)) = (nI (t0 + n1)) := h43
                  have q54 : ((a 44) (f + i)) = (nI (t0 + n1 + n2)) := h44
                  refine XG.blk tX9_lawTells_ok 29 10 (pc' := 61) (pl' := [some (.ref 0), some (.int (nI at')), some (.int (nI (f + i))), some (.int x), none]) (st' := [(.int ((a 44) (nI (f + i)).toNatClampNeg)), (.int ((a 43) (nI (f + i)).toNatClampNeg)), (.ref 0)]) (W1 := (mW (va_up v 53 (nI 0)) (va_up a 52 pile9) b)) (bs := [px_vb (nI (f + i)) 260, px_vb (nI (f + i)) 260]) rfl rfl (by (try simp only [q52, q53, q54]); exact (px_all (px_vbN (by omega) (by decide)) (px_all (px_vbN (by omega) (by decide)) rfl))) ?_
                  simp only [q52, q53, q54]
                  refine XG.callV0 eX9_lawTells_61 kl_X9_366 (con_term_some (d - 1) (va_up v 53 (nI 0)) (va_up a 52 pile9) b (t0 + n1) n2 y (by omega) w2 hv) (px_fitS (by omega)) rfl rfl rfl (Nat.le_of_ble_eq_true rfl) (fun r9 W9 hp9 hl9 => ?_)
                  obtain ⟨pile10, rfl, rfl⟩ := hp9
                  refine XG.blk tX9_lawTells_ok 40 3 (pc' := 70) (pl' := [some (.ref 0), some (.int (nI at')), some (.int (nI (f + i))), some (.int x), some (.int y)]) (st' := [(.int (nI 0))]) (W1 := (mW (va_up v 53 (nI 0)) (va_up a 52 pile10) b)) (bs := []) rfl rfl rfl ?_
                  refine XG.br eX9_lawTells_70 (P := (nI 0) = 0) (r := []) rfl (tgt := 75) (by decide) (fun h70 => ?_) (fun h70 => ?_)
                  · skip
                    have g70 : 0 = 0 := (nI_eq (a := 0) (b := 0) (by omega) (by omega)).mp h70
                    refine XG.blk tX9_lawTells_ok 46 2 (pc' := 78) (pl' := [some (.ref 0), some (.int (nI at')), some (.int (nI (f + i))), some (.int x), some (.int y)]) (st' := [(.int y), (.int x)]) (W1 := (mW (va_up v 53 (nI 0)) (va_up a 52 pile10) b)) (bs := []) rfl rfl rfl ?_
                    refine XG.br eX9_lawTells_78 (P := x < y) (r := []) rfl (tgt := 84) (by decide) (fun h78 => ?_) (fun h78 => ?_)
                    · skip
                      have q55 : (nI (f + i)).toNatClampNeg = (f + i) := nI_clamp (by omega)
                      have q56 : ((a 44) (f + i)) = (nI (t0 + n1 + n2)) := h44
                      have q57 : ((a 45) (f + i)) = (nI (t0 + n1 + n2 + n3)) := h45
                      refine XG.blk tX9_lawTells_ok 50 9 (pc' := 97) (pl' := [some (.ref 0), some (.int (nI at')), some (.int (nI (f + i))), some (.int x), some (.int y)]) (st' := [(.int ((a 45) (nI (f + i)).toNatClampNeg)), (.int ((a 44) (nI (f + i)).toNatClampNeg)), (.ref 0)]) (W1 := (mW (va_up v 53 (nI 0)) (va_up a 52 pile10) b)) (bs := [px_vb (nI (f + i)) 260, px_vb (nI (f + i)) 260]) rfl rfl (by (try simp only [q55, q56, q57]); exact (px_all (px_vbN (by omega) (by decide)) (px_all (px_vbN (by omega) (by decide)) rfl))) ?_
                      simp only [q55, q56, q57]
                      refine XG.callV0 eX9_lawTells_97 kl_X9_366 (con_term_none (d - 1) (va_up v 53 (nI 0)) (va_up a 52 pile10) b (t0 + n1 + n2) n3 (by omega) w3 hw3) (px_fitS (by omega)) rfl rfl rfl (Nat.le_of_ble_eq_true rfl) (fun r9 W9 hp9 hl9 => ?_)
                      obtain ⟨pile11, rfl, rfl⟩ := hp9
                      refine XG.blk tX9_lawTells_ok 60 3 (pc' := 105) (pl' := [some (.ref 0), some (.int (nI at')), some (.int (nI (f + i))), some (.int 0), some (.int y)]) (st' := [(.int (nI 1))]) (W1 := (mW (va_up v 53 (nI 1)) (va_up a 52 pile11) b)) (bs := []) rfl rfl rfl ?_
                      refine XG.br eX9_lawTells_105 (P := (nI 1) = 0) (r := []) rfl (tgt := 112) (by decide) (fun h105 => ?_) (fun h105 => ?_)
                      · exfalso
                        have g105 : 1 = 0 := (nI_eq (a := 1) (b := 0) (by omega) (by omega)).mp h105
                        omega
                      · skip
                        have g105 : ¬ 1 = 0 := (fun z => h105 ((nI_eq (a := 1) (b := 0) (by omega) (by omega)).mpr z))
                        refine XG.blk tX9_lawTells_ok 64 1 (pc' := 109) (pl' := [some (.ref 0), some (.int (nI at')), some (.int (nI (f + i))), some (.int 0), some (.int y)]) (st' := [(.int (nI 0))]) (W1 := (mW (va_up v 53 (nI 1)) (va_up a 52 pile11) b)) (bs := []) rfl rfl rfl ?_
                        refine XG.goto eX9_lawTells_109 (tgt := 113) (by decide) ?_
                        refine XS.iret eX9_lawTells_113 rfl rfl ?_
                        exact ⟨_, _, rfl, by first | exact chg.up (by decide) | exact fun k hk => by simp only [va_up]; rw [if_neg (fun e => hk (by rw [e]; decide)), if_neg (fun e => hk (by rw [e]; decide))], by rw [← hr] <;> rfl⟩
                    · exfalso
                      first | exact absurd h28 ht | exact h28 ht | exact absurd hxy h78 | exact h78 hxy | exact hxy h78 | omega
                  · exfalso
                    have g70 : ¬ 0 = 0 := (fun z => h70 ((nI_eq (a := 0) (b := 0) (by omega) (by omega)).mpr z))
                    omega
            | some z =>
              rw [hw3] at hr
              have q58 : (nI at').toNatClampNeg = at' := nI_clamp (by omega)
              have q59 : ((a 39) at') = (nI (f + m)) := hl
              refine XG.blk tX9_lawTells_ok 8 5 (pc' := 19) (pl' := [some (.ref 0), some (.int (nI at')), some (.int (nI (f + i))), none, none]) (st' := [(.int ((a 39) (nI at').toNatClampNeg)), (.int (nI (f + i)))]) (W1 := (mW (va_up v 53 (nI 0)) (va_up a 52 pile) b)) (bs := [px_vb (nI at') 6]) rfl rfl (by (try simp only [q58, q59]); exact (px_all (px_vbN (by omega) (by decide)) rfl)) ?_
              simp only [q58, q59]
              refine XG.br eX9_lawTells_19 (P := (nI (f + m)) ≤ (nI (f + i))) (r := []) rfl (tgt := 120) (by decide) (fun h19 => ?_) (fun h19 => ?_)
              · exfalso
                have g19 : (f + m) ≤ (f + i) := (nI_leI (a := (f + m)) (b := (f + i)) (by omega) (by omega)).mp h19
                omega
              · skip
                have g19 : ¬ (f + m) ≤ (f + i) := (fun z => h19 ((nI_leI (a := (f + m)) (b := (f + i)) (by omega) (by omega)).mpr z))
                have q60 : (nI (f + i)).toNatClampNeg = (f + i) := nI_clamp (by omega)
                refine XG.blk tX9_lawTells_ok 14 4 (pc' := 28) (pl' := [some (.ref 0), some (.int (nI at')), some (.int (nI (f + i))), none, none]) (st' := [(.int ((a 41) (nI (f + i)).toNatClampNeg))]) (W1 := (mW (va_up v 53 (nI 0)) (va_up a 52 pile) b)) (bs := [px_vb (nI (f + i)) 260]) rfl rfl (by (try simp only [q60]); exact (px_all (px_vbN (by omega) (by decide)) rfl)) ?_
                simp only [q60]
                refine XG.br eX9_lawTells_28 (P := ((a 41) (f + i)) = 0) (r := []) rfl (tgt := 84) (by decide) (fun h28 => ?_) (fun h28 => ?_)
                · exfalso
                  first | exact absurd h28 ht | exact h28 ht | exact absurd hxy h78 | exact h78 hxy | exact hxy h78 | omega
                · skip
                  have q61 : (nI (f + i)).toNatClampNeg = (f + i) := nI_clamp (by omega)
                  have q62 : ((a 42) (f + i)) = (nI t0) := h42
                  have q63 : ((a 43) (f + i)) = (nI (t0 + n1)) := h43
                  refine XG.blk tX9_lawTells_ok 19 9 (pc' := 44) (pl' := [some (.ref 0), some (.int (nI at')), some (.int (nI (f + i))), none, none]) (st' := [(.int ((a 43) (nI (f + i)).toNatClampNeg)), (.int ((a 42) (nI (f + i)).toNatClampNeg)), (.ref 0)]) (W1 := (mW (va_up v 53 (nI 0)) (va_up a 52 pile) b)) (bs := [px_vb (nI (f + i)) 260, px_vb (nI (f + i)) 260]) rfl rfl (by (try simp only [q61, q62, q63]); exact (px_all (px_vbN (by omega) (by decide)) (px_all (px_vbN (by omega) (by decide)) rfl))) ?_
                  simp only [q61, q62, q63]
                  refine XG.callV0 eX9_lawTells_44 kl_X9_366 (con_term_some (d - 1) (va_up v 53 (nI 0)) (va_up a 52 pile) b t0 n1 x (by omega) w1 hu) (px_fitS (by omega)) rfl rfl rfl (Nat.le_of_ble_eq_true rfl) (fun r9 W9 hp9 hl9 => ?_)
                  obtain ⟨pile12, rfl, rfl⟩ := hp9
                  have q64 : (nI (f + i)).toNatClampNeg = (f + i) := nI_clamp (by omega)
                  have q65 : ((a 43) (f + i)) = (nI (t0 + n1)) := h43
                  have q66 : ((a 44) (f + i)) = (nI (t0 + n1 + n2)) := h44
                  refine XG.blk tX9_lawTells_ok 29 10 (pc' := 61) (pl' := [some (.ref 0), some (.int (nI at')), some (.int (nI (f + i))), some (.int x), none]) (st' := [(.int ((a 44) (nI (f + i)).toNatClampNeg)), (.int ((a 43) (nI (f + i)).toNatClampNeg)), (.ref 0)]) (W1 := (mW (va_up v 53 (nI 0)) (va_up a 52 pile12) b)) (bs := [px_vb (nI (f + i)) 260, px_vb (nI (f + i)) 260]) rfl rfl (by (try simp only [q64, q65, q66]); exact (px_all (px_vbN (by omega) (by decide)) (px_all (px_vbN (by omega) (by decide)) rfl))) ?_
                  simp only [q64, q65, q66]
                  refine XG.callV0 eX9_lawTells_61 kl_X9_366 (con_term_some (d - 1) (va_up v 53 (nI 0)) (va_up a 52 pile12) b (t0 + n1) n2 y (by omega) w2 hv) (px_fitS (by omega)) rfl rfl rfl (Nat.le_of_ble_eq_true rfl) (fun r9 W9 hp9 hl9 => ?_)
                  obtain ⟨pile13, rfl, rfl⟩ := hp9
                  refine XG.blk tX9_lawTells_ok 40 3 (pc' := 70) (pl' := [some (.ref 0), some (.int (nI at')), some (.int (nI (f + i))), some (.int x), some (.int y)]) (st' := [(.int (nI 0))]) (W1 := (mW (va_up v 53 (nI 0)) (va_up a 52 pile13) b)) (bs := []) rfl rfl rfl ?_
                  refine XG.br eX9_lawTells_70 (P := (nI 0) = 0) (r := []) rfl (tgt := 75) (by decide) (fun h70 => ?_) (fun h70 => ?_)
                  · skip
                    have g70 : 0 = 0 := (nI_eq (a := 0) (b := 0) (by omega) (by omega)).mp h70
                    refine XG.blk tX9_lawTells_ok 46 2 (pc' := 78) (pl' := [some (.ref 0), some (.int (nI at')), some (.int (nI (f + i))), some (.int x), some (.int y)]) (st' := [(.int y), (.int x)]) (W1 := (mW (va_up v 53 (nI 0)) (va_up a 52 pile13) b)) (bs := []) rfl rfl rfl ?_
                    refine XG.br eX9_lawTells_78 (P := x < y) (r := []) rfl (tgt := 84) (by decide) (fun h78 => ?_) (fun h78 => ?_)
                    · skip
                      have q67 : (nI (f + i)).toNatClampNeg = (f + i) := nI_clamp (by omega)
                      have q68 : ((a 44) (f + i)) = (nI (t0 + n1 + n2)) := h44
                      have q69 : ((a 45) (f + i)) = (nI (t0 + n1 + n2 + n3)) := h45
                      refine XG.blk tX9_lawTells_ok 50 9 (pc' := 97) (pl' := [some (.ref 0), some (.int (nI at')), some (.int (nI (f + i))), some (.int x), some (.int y)]) (st' := [(.int ((a 45) (nI (f + i)).toNatClampNeg)), (.int ((a 44) (nI (f + i)).toNatClampNeg)), (.ref 0)]) (W1 := (mW (va_up v 53 (nI 0)) (va_up a 52 pile13) b)) (bs := [px_vb (nI (f + i)) 260, px_vb (nI (f + i)) 260]) rfl rfl (by (try simp only [q67, q68, q69]); exact (px_all (px_vbN (by omega) (by decide)) (px_all (px_vbN (by omega) (by decide)) rfl))) ?_
                      simp only [q67, q68, q69]
                      refine XG.callV0 eX9_lawTells_97 kl_X9_366 (con_term_some (d - 1) (va_up v 53 (nI 0)) (va_up a 52 pile13) b (t0 + n1 + n2) n3 z (by omega) w3 hw3) (px_fitS (by omega)) rfl rfl rfl (Nat.le_of_ble_eq_true rfl) (fun r9 W9 hp9 hl9 => ?_)
                      obtain ⟨pile14, rfl, rfl⟩ := hp9
                      refine XG.blk tX9_lawTells_ok 60 3 (pc' := 105) (pl' := [some (.ref 0), some (.int (nI at')), some (.int (nI (f + i))), some (.int z), some (.int y)]) (st' := [(.int (nI 0))]) (W1 := (mW (va_up v 53 (nI 0)) (va_up a 52 pile14) b)) (bs := []) rfl rfl rfl ?_
                      refine XG.br eX9_lawTells_105 (P := (nI 0) = 0) (r := []) rfl (tgt := 112) (by decide) (fun h105 => ?_) (fun h105 => ?_)
                      · skip
                        have g105 : 0 = 0 := (nI_eq (a := 0) (b := 0) (by omega) (by omega)).mp h105
                        refine XG.blk tX9_lawTells_ok 66 1 (pc' := 113) (pl' := [some (.ref 0), some (.int (nI at')), some (.int (nI (f + i))), some (.int z), some (.int y)]) (st' := [(.int z)]) (W1 := (mW (va_up v 53 (nI 0)) (va_up a 52 pile14) b)) (bs := []) rfl rfl rfl ?_
                        refine XS.iret eX9_lawTells_113 rfl rfl ?_
                        exact ⟨_, _, rfl, by first | exact chg.up (by decide) | exact fun k hk => by simp only [va_up]; rw [if_neg (fun e => hk (by rw [e]; decide)), if_neg (fun e => hk (by rw [e]; decide))], by rw [← hr] <;> rfl⟩
                      · exfalso
                        have g105 : ¬ 0 = 0 := (fun z => h105 ((nI_eq (a := 0) (b := 0) (by omega) (by omega)).mpr z))
                        omega
                    · exfalso
                      first | exact absurd h28 ht | exact h28 ht | exact absurd hxy h78 | exact h78 hxy | exact hxy h78 | omega
                  · exfalso
                    have g70 : ¬ 0 = 0 := (fun z => h70 ((nI_eq (a := 0) (b := 0) (by omega) (by omega)).mpr z))
                    omega
          · rw [if_neg hxy] at hr
            have q70 : (nI at').toNatClampNeg = at' := nI_clamp (by omega)
            have q71 : ((a 39) at') = (nI (f + m)) := hl
            refine XG.blk tX9_lawTells_ok 8 5 (pc' := 19) (pl' := [some (.ref 0), some (.int (nI at')), some (.int (nI (f + i))), none, none]) (st' := [(.int ((a 39) (nI at').toNatClampNeg)), (.int (nI (f + i)))]) (W1 := (mW (va_up v 53 (nI 0)) (va_up a 52 pile) b)) (bs := [px_vb (nI at') 6]) rfl rfl (by (try simp only [q70, q71]); exact (px_all (px_vbN (by omega) (by decide)) rfl)) ?_
            simp only [q70, q71]
            refine XG.br eX9_lawTells_19 (P := (nI (f + m)) ≤ (nI (f + i))) (r := []) rfl (tgt := 120) (by decide) (fun h19 => ?_) (fun h19 => ?_)
            · exfalso
              have g19 : (f + m) ≤ (f + i) := (nI_leI (a := (f + m)) (b := (f + i)) (by omega) (by omega)).mp h19
              omega
            · skip
              have g19 : ¬ (f + m) ≤ (f + i) := (fun z => h19 ((nI_leI (a := (f + m)) (b := (f + i)) (by omega) (by omega)).mpr z))
              have q72 : (nI (f + i)).toNatClampNeg = (f + i) := nI_clamp (by omega)
              refine XG.blk tX9_lawTells_ok 14 4 (pc' := 28) (pl' := [some (.ref 0), some (.int (nI at')), some (.int (nI (f + i))), none, none]) (st' := [(.int ((a 41) (nI (f + i)).toNatClampNeg))]) (W1 := (mW (va_up v 53 (nI 0)) (va_up a 52 pile) b)) (bs := [px_vb (nI (f + i)) 260]) rfl rfl (by (try simp only [q72]); exact (px_all (px_vbN (by omega) (by decide)) rfl)) ?_
              simp only [q72]
              refine XG.br eX9_lawTells_28 (P := ((a 41) (f + i)) = 0) (r := []) rfl (tgt := 84) (by decide) (fun h28 => ?_) (fun h28 => ?_)
              · exfalso
                first | exact absurd h28 ht | exact h28 ht | exact absurd hxy h78 | exact h78 hxy | exact hxy h78 | omega
              · skip
                have q73 : (nI (f + i)).toNatClampNeg = (f + i) := nI_clamp (by omega)
                have q74 : ((a 42) (f + i)) = (nI t0) := h42
                have q75 : ((a 43) (f + i)) = (nI (t0 + n1)) := h43
                refine XG.blk tX9_lawTells_ok 19 9 (pc' := 44) (pl' := [some (.ref 0), some (.int (nI at')), some (.int (nI (f + i))), none, none]) (st' := [(.int ((a 43) (nI (f + i)).toNatClampNeg)), (.int ((a 42) (nI (f + i)).toNatClampNeg)), (.ref 0)]) (W1 := (mW (va_up v 53 (nI 0)) (va_up a 52 pile) b)) (bs := [px_vb (nI (f + i)) 260, px_vb (nI (f + i)) 260]) rfl rfl (by (try simp only [q73, q74, q75]); exact (px_all (px_vbN (by omega) (by decide)) (px_all (px_vbN (by omega) (by decide)) rfl))) ?_
                simp only [q73, q74, q75]
                refine XG.callV0 eX9_lawTells_44 kl_X9_366 (con_term_some (d - 1) (va_up v 53 (nI 0)) (va_up a 52 pile) b t0 n1 x (by omega) w1 hu) (px_fitS (by omega)) rfl rfl rfl (Nat.le_of_ble_eq_true rfl) (fun r9 W9 hp9 hl9 => ?_)
                obtain ⟨pile15, rfl, rfl⟩ := hp9
                have q76 : (nI (f + i)).toNatClampNeg = (f + i) := nI_clamp (by omega)
                have q77 : ((a 43) (f + i)) = (nI (t0 + n1)) := h43
                have q78 : ((a 44) (f + i)) = (nI (t0 + n1 + n2)) := h44
                refine XG.blk tX9_lawTells_ok 29 10 (pc' := 61) (pl' := [some (.ref 0), some (.int (nI at')), some (.int (nI (f + i))), some (.int x), none]) (st' := [(.int ((a 44) (nI (f + i)).toNatClampNeg)), (.int ((a 43) (nI (f + i)).toNatClampNeg)), (.ref 0)]) (W1 := (mW (va_up v 53 (nI 0)) (va_up a 52 pile15) b)) (bs := [px_vb (nI (f + i)) 260, px_vb (nI (f + i)) 260]) rfl rfl (by (try simp only [q76, q77, q78]); exact (px_all (px_vbN (by omega) (by decide)) (px_all (px_vbN (by omega) (by decide)) rfl))) ?_
                simp only [q76, q77, q78]
                refine XG.callV0 eX9_lawTells_61 kl_X9_366 (con_term_some (d - 1) (va_up v 53 (nI 0)) (va_up a 52 pile15) b (t0 + n1) n2 y (by omega) w2 hv) (px_fitS (by omega)) rfl rfl rfl (Nat.le_of_ble_eq_true rfl) (fun r9 W9 hp9 hl9 => ?_)
                obtain ⟨pile16, rfl, rfl⟩ := hp9
                refine XG.blk tX9_lawTells_ok 40 3 (pc' := 70) (pl' := [some (.ref 0), some (.int (nI at')), some (.int (nI (f + i))), some (.int x), some (.int y)]) (st' := [(.int (nI 0))]) (W1 := (mW (va_up v 53 (nI 0)) (va_up a 52 pile16) b)) (bs := []) rfl rfl rfl ?_
                refine XG.br eX9_lawTells_70 (P := (nI 0) = 0) (r := []) rfl (tgt := 75) (by decide) (fun h70 => ?_) (fun h70 => ?_)
                · skip
                  have g70 : 0 = 0 := (nI_eq (a := 0) (b := 0) (by omega) (by omega)).mp h70
                  refine XG.blk tX9_lawTells_ok 46 2 (pc' := 78) (pl' := [some (.ref 0), some (.int (nI at')), some (.int (nI (f + i))), some (.int x), some (.int y)]) (st' := [(.int y), (.int x)]) (W1 := (mW (va_up v 53 (nI 0)) (va_up a 52 pile16) b)) (bs := []) rfl rfl rfl ?_
                  refine XG.br eX9_lawTells_78 (P := x < y) (r := []) rfl (tgt := 84) (by decide) (fun h78 => ?_) (fun h78 => ?_)
                  · exfalso
                    first | exact absurd h28 ht | exact h28 ht | exact absurd hxy h78 | exact h78 hxy | exact hxy h78 | omega
                  · skip
                    refine XG.goto eX9_lawTells_81 (tgt := 114) (by decide) ?_
                    have q79 : ((nI (f + i)) + (nI 1)) = (nI ((f + i) + 1)) := px_eadd rfl rfl
                    refine XG.blk tX9_lawTells_ok 68 1 (pc' := 117) (pl' := [some (.ref 0), some (.int (nI at')), some (.int ((nI (f + i)) + (nI 1))), some (.int x), some (.int y)]) (st' := []) (W1 := (mW (va_up v 53 (nI 0)) (va_up a 52 pile16) b)) (bs := []) rfl rfl rfl ?_
                    simp only [q79]
                    refine XG.goto eX9_lawTells_117 (tgt := 12) (by decide) ?_
                    refine XG.weak (pl' := [some (.ref 0), some (.int (nI at')), some (.int (nI (f + (i + 1)))), none, none]) ⟨rfl, rfl, rfl, trivial⟩ ?_
                    exact ihi pile16 hr
                · exfalso
                  have g70 : ¬ 0 = 0 := (fun z => h70 ((nI_eq (a := 0) (b := 0) (by omega) (by omega)).mpr z))
                  omega
