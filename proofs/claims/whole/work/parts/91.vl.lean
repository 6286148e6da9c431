/-! the class: what a law tells -/
def stL : List LBr → Nat → List (Nat × Nat)
  | [], _ => []
  | br :: r, p => match br.1 with
    | none => br.2 ++ [(7, 0)]
    | some cc => cc.1 ++ (cc.2 ++ ((6, p + cc.1.length + cc.2.length + 1 + br.2.length + 1) :: (br.2 ++ ((7, 0) :: stL r (p + cc.1.length + cc.2.length + 1 + br.2.length + 1)))))
theorem hg32 {c : Cde} (h : EXc c) (dp : Nat) (hd : dp ≤ 10) : hgC 32 (dp + 1) c dp := by
  have h1 := h.EX.2 dp 32 (dp + 1) [] (by omega) rfl
  rw [List.append_nil] at h1; exact h1
theorem ev_one {vars : Nat → Int32} {c : Cde} (h : EXc c) (s : List Int32) : evC vars c s = (evV vars c).map (fun x => x :: s) := by
  have h1 := EX_ev h.EX vars [] s
  rw [List.append_nil] at h1
  rw [h1]
  cases evV vars c <;> rfl
set_option maxHeartbeats 400000 in
theorem end_go (d sz k : Nat) (hz : sz ≤ 404) (st bg se sk : Nat → Int32) (R : Int32) (p m : Nat) (hs : st p = nI 7) (hp : p < sz) (hm : m ≤ p) (hR : R = sk 0) : XG mX0_value (px_gS d (fun r W' => ∃ sk', W' = lsW (nI sz) st bg sk' se ∧ r = some (.int R))) 0 0 13 [some (.ref 0), some (.int (nI k)), some (.ref 4), some (.int (nI 1)), some (.int (nI p)), some (.int (nI m)), none, none, none, none, none] [] (lsW (nI sz) st bg sk se) := by
  refine XG.blk tX0_value_ok 9 2 (pc' := 18) (pl' := [some (.ref 0), some (.int (nI k)), some (.ref 4), some (.int (nI 1)), some (.int (nI p)), some (.int (nI m)), none, none, none, none, none]) (st' := [(.int (nI 404)), (.int (nI m))]) (W1 := (lsW (nI sz) st bg sk se)) (bs := []) rfl rfl rfl ?_
  refine XG.br eX0_value_18 (P := (nI 404) ≤ (nI m)) (r := []) rfl (tgt := 260) (by decide) (fun h18 => ?_) (fun h18 => ?_)
  · exfalso
    have g18 : 404 ≤ m := (nI_leI (a := 404) (b := m) (by omega) (by omega)).mp h18
    omega
  · skip
    have g18 : ¬ 404 ≤ m := (fun z => h18 ((nI_leI (a := 404) (b := m) (by omega) (by omega)).mpr z))
    have q1 : (nI sz) = (nI sz) := rfl
    refine XG.blk tX0_value_ok 12 3 (pc' := 27) (pl' := [some (.ref 0), some (.int (nI k)), some (.ref 4), some (.int (nI 1)), some (.int (nI p)), some (.int (nI m)), none, none, none, none, none]) (st' := [(.int (nI sz)), (.int (nI p))]) (W1 := (lsW (nI sz) st bg sk se)) (bs := []) rfl rfl rfl ?_
    refine XG.br eX0_value_27 (P := (nI sz) ≤ (nI p)) (r := []) rfl (tgt := 260) (by decide) (fun h27 => ?_) (fun h27 => ?_)
    · exfalso
      have g27 : sz ≤ p := (nI_leI (a := sz) (b := p) (by omega) (by omega)).mp h27
      omega
    · skip
      have g27 : ¬ sz ≤ p := (fun z => h27 ((nI_leI (a := sz) (b := p) (by omega) (by omega)).mpr z))
      have q2 : (nI p).toNatClampNeg = p := nI_clamp (by omega)
      have q3 : (st p) = (nI 7) := hs
      have q4 : ((nI 7) &&& (nI 7)) = (nI 7) := (by decide)
      have q5 : ((nI p) + (nI 1)) = (nI (p + 1)) := px_eadd rfl rfl
      refine XG.blk tX0_value_ok 16 17 (pc' := 60) (pl' := [some (.ref 0), some (.int (nI k)), some (.ref 4), some (.int (nI 1)), some (.int ((nI p) + (nI 1))), some (.int (nI m)), some (.int ((st (nI p).toNatClampNeg) &&& (nI 7))), some (.int ((st (nI p).toNatClampNeg) >>> ((nI 3) &&& 31))), none, none, none]) (st' := [(.int (nI 7)), (.int ((st (nI p).toNatClampNeg) &&& (nI 7)))]) (W1 := (lsW (nI sz) st bg sk se)) (bs := [px_vb (nI p) 404, px_vb (nI p) 404]) rfl rfl (by (try simp only [q2, q3, q4, q5]); exact (px_all (px_vbN (by omega) (by decide)) (px_all (px_vbN (by omega) (by decide)) rfl))) ?_
      simp only [q2, q3, q4, q5]
      refine XG.br eX0_value_60 (P := ¬ (nI 7) = (nI 7)) (r := []) rfl (tgt := 75) (by decide) (fun h60 => ?_) (fun h60 => ?_)
      · exfalso
        have g60 : ¬ 7 = 7 := (fun z => h60 ((nI_eq (a := 7) (b := 7) (by omega) (by omega)).mpr z))
        omega
      · skip
        have h60 := Decidable.not_not.mp h60
        have g60 : 7 = 7 := (nI_eq (a := 7) (b := 7) (by omega) (by omega)).mp h60
        have q6 : ((nI 1) - (nI 1)) = (nI (1 - 1)) := px_esub rfl rfl (by omega)
        have q7 : ((nI (1 - 1)) &&& (nI 31)) = (nI 0) := (by decide)
        have q8 : (nI 0).toNatClampNeg = 0 := nI_clamp (by omega)
        refine XG.blk tX0_value_ok 34 8 (pc' := 74) (pl' := [some (.ref 0), some (.int (nI k)), some (.ref 4), some (.int (nI 1)), some (.int (nI (p + 1))), some (.int (nI m)), some (.int (nI 7)), some (.int ((nI 7) >>> ((nI 3) &&& 31))), none, none, none]) (st' := [(.int (sk (((nI 1) - (nI 1)) &&& (nI 31)).toNatClampNeg))]) (W1 := (lsW (nI sz) st bg sk se)) (bs := [px_vb (((nI 1) - (nI 1)) &&& (nI 31)) 32]) rfl rfl (by (try simp only [q6, q7, q8]); exact (px_all (px_vbN (by omega) (by decide)) rfl)) ?_
        simp only [q6, q7, q8]
        refine XS.iret eX0_value_74 rfl rfl ?_
        rw [hR]; exact ⟨_, rfl, rfl⟩
set_option maxHeartbeats 400000 in
theorem test_go (d sz k : Nat) (hz : sz ≤ 404) (st bg se sk : Nat → Int32) (R : Int32) (p m tg : Nat) (htg : tg < 10000) (hs : st p = nI (8 * tg + 6)) (hp : p < sz) (hm : m ≤ p) (h1 : sk 0 < sk 1 → XG mX0_value (px_gS d (fun r W' => ∃ sk', W' = lsW (nI sz) st bg sk' se ∧ r = some (.int R))) 0 0 13 [some (.ref 0), some (.int (nI k)), some (.ref 4), some (.int (nI 0)), some (.int (nI (p + 1))), some (.int (nI (m + 1))), none, none, none, none, none] [] (lsW (nI sz) st bg sk se)) (h2 : ¬ sk 0 < sk 1 → XG mX0_value (px_gS d (fun r W' => ∃ sk', W' = lsW (nI sz) st bg sk' se ∧ r = some (.int R))) 0 0 13 [some (.ref 0), some (.int (nI k)), some (.ref 4), some (.int (nI 0)), some (.int (nI tg)), some (.int (nI (m + 1))), none, none, none, none, none] [] (lsW (nI sz) st bg sk se)) : XG mX0_value (px_gS d (fun r W' => ∃ sk', W' = lsW (nI sz) st bg sk' se ∧ r = some (.int R))) 0 0 13 [some (.ref 0), some (.int (nI k)), some (.ref 4), some (.int (nI 2)), some (.int (nI p)), some (.int (nI m)), none, none, none, none, none] [] (lsW (nI sz) st bg sk se) := by
  refine XG.blk tX0_value_ok 9 2 (pc' := 18) (pl' := [some (.ref 0), some (.int (nI k)), some (.ref 4), some (.int (nI 2)), some (.int (nI p)), some (.int (nI m)), none, none, none, none, none]) (st' := [(.int (nI 404)), (.int (nI m))]) (W1 := (lsW (nI sz) st bg sk se)) (bs := []) rfl rfl rfl ?_
  refine XG.br eX0_value_18 (P := (nI 404) ≤ (nI m)) (r := []) rfl (tgt := 260) (by decide) (fun h18 => ?_) (fun h18 => ?_)
  · exfalso
    have g18 : 404 ≤ m := (nI_leI (a := 404) (b := m) (by omega) (by omega)).mp h18
    omega
  · skip
    have g18 : ¬ 404 ≤ m := (fun z => h18 ((nI_leI (a := 404) (b := m) (by omega) (by omega)).mpr z))
    have q1 : (nI sz) = (nI sz) := rfl
    refine XG.blk tX0_value_ok 12 3 (pc' := 27) (pl' := [some (.ref 0), some (.int (nI k)), some (.ref 4), some (.int (nI 2)), some (.int (nI p)), some (.int (nI m)), none, none, none, none, none]) (st' := [(.int (nI sz)), (.int (nI p))]) (W1 := (lsW (nI sz) st bg sk se)) (bs := []) rfl rfl rfl ?_
    refine XG.br eX0_value_27 (P := (nI sz) ≤ (nI p)) (r := []) rfl (tgt := 260) (by decide) (fun h27 => ?_) (fun h27 => ?_)
    · exfalso
      have g27 : sz ≤ p := (nI_leI (a := sz) (b := p) (by omega) (by omega)).mp h27
      omega
    · skip
      have g27 : ¬ sz ≤ p := (fun z => h27 ((nI_leI (a := sz) (b := p) (by omega) (by omega)).mpr z))
      have q2 : (nI p).toNatClampNeg = p := nI_clamp (by omega)
      have q3 : (st p) = (nI (8 * tg + 6)) := hs
      have q4 : ((nI (8 * tg + 6)) &&& (nI 7)) = (nI 6) := enc_k (by decide) (by omega)
      have q5 : ((nI (8 * tg + 6)) >>> ((nI 3) &&& 31)) = (nI tg) := enc_x (by decide) (by omega)
      have q6 : ((nI p) + (nI 1)) = (nI (p + 1)) := px_eadd rfl rfl
      refine XG.blk tX0_value_ok 16 17 (pc' := 60) (pl' := [some (.ref 0), some (.int (nI k)), some (.ref 4), some (.int (nI 2)), some (.int ((nI p) + (nI 1))), some (.int (nI m)), some (.int ((st (nI p).toNatClampNeg) &&& (nI 7))), some (.int ((st (nI p).toNatClampNeg) >>> ((nI 3) &&& 31))), none, none, none]) (st' := [(.int (nI 7)), (.int ((st (nI p).toNatClampNeg) &&& (nI 7)))]) (W1 := (lsW (nI sz) st bg sk se)) (bs := [px_vb (nI p) 404, px_vb (nI p) 404]) rfl rfl (by (try simp only [q2, q3, q4, q5, q6]); exact (px_all (px_vbN (by omega) (by decide)) (px_all (px_vbN (by omega) (by decide)) rfl))) ?_
      simp only [q2, q3, q4, q5, q6]
      refine XG.br eX0_value_60 (P := ¬ (nI 6) = (nI 7)) (r := []) rfl (tgt := 75) (by decide) (fun h60 => ?_) (fun h60 => ?_)
      · skip
        have g60 : ¬ 6 = 7 := (fun z => h60 ((nI_eq (a := 6) (b := 7) (by omega) (by omega)).mpr z))
        refine XG.blk tX0_value_ok 43 1 (pc' := 77) (pl' := [some (.ref 0), some (.int (nI k)), some (.ref 4), some (.int (nI 2)), some (.int (nI (p + 1))), some (.int (nI m)), some (.int (nI 6)), some (.int (nI tg)), none, none, none]) (st' := [(.int (nI 6))]) (W1 := (lsW (nI sz) st bg sk se)) (bs := []) rfl rfl rfl ?_
        refine XG.br eX0_value_77 (P := (nI 6) = 0) (r := []) rfl (tgt := 86) (by decide) (fun h77 => ?_) (fun h77 => ?_)
        · exfalso
          have g77 : 6 = 0 := (nI_eq (a := 6) (b := 0) (by omega) (by omega)).mp h77
          omega
        · skip
          have g77 : ¬ 6 = 0 := (fun z => h77 ((nI_eq (a := 6) (b := 0) (by omega) (by omega)).mpr z))
          refine XG.blk tX0_value_ok 45 2 (pc' := 83) (pl' := [some (.ref 0), some (.int (nI k)), some (.ref 4), some (.int (nI 2)), some (.int (nI (p + 1))), some (.int (nI m)), some (.int (nI 6)), some (.int (nI tg)), none, none, none]) (st' := [(.int (nI 1)), (.int (nI 6))]) (W1 := (lsW (nI sz) st bg sk se)) (bs := []) rfl rfl rfl ?_
          refine XG.br eX0_value_83 (P := ¬ (nI 6) = (nI 1)) (r := []) rfl (tgt := 118) (by decide) (fun h83 => ?_) (fun h83 => ?_)
          · skip
            have g83 : ¬ 6 = 1 := (fun z => h83 ((nI_eq (a := 6) (b := 1) (by omega) (by omega)).mpr z))
            have q7 : ((nI 2) - (nI 2)) = (nI (2 - 2)) := px_esub rfl rfl (by omega)
            have q8 : ((nI (2 - 2)) &&& (nI 31)) = (nI 0) := (by decide)
            have q9 : (nI 0).toNatClampNeg = 0 := nI_clamp (by omega)
            have q10 : ((nI 2) - (nI 1)) = (nI (2 - 1)) := px_esub rfl rfl (by omega)
            have q11 : ((nI (2 - 1)) &&& (nI 31)) = (nI 1) := (by decide)
            have q12 : (nI 1).toNatClampNeg = 1 := nI_clamp (by omega)
            refine XG.blk tX0_value_ok 65 20 (pc' := 148) (pl' := [some (.ref 0), some (.int (nI k)), some (.ref 4), some (.int (nI 2)), some (.int (nI (p + 1))), some (.int (nI m)), some (.int (nI 6)), some (.int (nI tg)), some (.int (sk (((nI 2) - (nI 2)) &&& (nI 31)).toNatClampNeg)), some (.int (sk (((nI 2) - (nI 1)) &&& (nI 31)).toNatClampNeg)), none]) (st' := [(.int (nI 6)), (.int (nI 6))]) (W1 := (lsW (nI sz) st bg sk se)) (bs := [px_vb (((nI 2) - (nI 2)) &&& (nI 31)) 32, px_vb (((nI 2) - (nI 1)) &&& (nI 31)) 32]) rfl rfl (by (try simp only [q7, q8, q9, q10, q11, q12]); exact (px_all (px_vbN (by omega) (by decide)) (px_all (px_vbN (by omega) (by decide)) rfl))) ?_
            simp only [q7, q8, q9, q10, q11, q12]
            refine XG.br eX0_value_148 (P := ¬ (nI 6) = (nI 6)) (r := []) rfl (tgt := 173) (by decide) (fun h148 => ?_) (fun h148 => ?_)
            · exfalso
              have g148 : ¬ 6 = 6 := (fun z => h148 ((nI_eq (a := 6) (b := 6) (by omega) (by omega)).mpr z))
              omega
            · skip
              have h148 := Decidable.not_not.mp h148
              have g148 : 6 = 6 := (nI_eq (a := 6) (b := 6) (by omega) (by omega)).mp h148
              have q13 : ((nI 2) + (-2)) = (nI 0) := by decide
              refine XG.blk tX0_value_ok 86 3 (pc' := 158) (pl' := [some (.ref 0), some (.int (nI k)), some (.ref 4), some (.int ((nI 2) + (-2))), some (.int (nI (p + 1))), some (.int (nI m)), some (.int (nI 6)), some (.int (nI tg)), some (.int (sk 0)), some (.int (sk 1)), none]) (st' := [(.int (sk 1)), (.int (sk 0))]) (W1 := (lsW (nI sz) st bg sk se)) (bs := []) rfl rfl rfl ?_
              simp only [q13]
              refine XG.br eX0_value_158 (P := (sk 1) ≤ (sk 0)) (r := []) rfl (tgt := 166) (by decide) (fun h158 => ?_) (fun h158 => ?_)
              · skip
                refine XG.blk tX0_value_ok 92 2 (pc' := 170) (pl' := [some (.ref 0), some (.int (nI k)), some (.ref 4), some (.int (nI 0)), some (.int (nI tg)), some (.int (nI m)), some (.int (nI 6)), some (.int (nI tg)), some (.int (sk 0)), some (.int (sk 1)), none]) (st' := []) (W1 := (lsW (nI sz) st bg sk se)) (bs := []) rfl rfl rfl ?_
                refine XG.goto eX0_value_170 (tgt := 254) (by decide) ?_
                have q14 : ((nI m) + (nI 1)) = (nI (m + 1)) := px_eadd rfl rfl
                refine XG.blk tX0_value_ok 138 1 (pc' := 257) (pl' := [some (.ref 0), some (.int (nI k)), some (.ref 4), some (.int (nI 0)), some (.int (nI tg)), some (.int ((nI m) + (nI 1))), some (.int (nI 6)), some (.int (nI tg)), some (.int (sk 0)), some (.int (sk 1)), none]) (st' := []) (W1 := (lsW (nI sz) st bg sk se)) (bs := []) rfl rfl rfl ?_
                simp only [q14]
                refine XG.goto eX0_value_257 (tgt := 13) (by decide) ?_
                refine XG.weak (pl' := [some (.ref 0), some (.int (nI k)), some (.ref 4), some (.int (nI 0)), some (.int (nI tg)), some (.int (nI (m + 1))), none, none, none, none, none]) ⟨rfl, rfl, rfl, rfl, rfl, rfl, trivial⟩ ?_
                exact h2 (Int32.not_lt.mpr h158)
              · skip
                refine XG.blk tX0_value_ok 90 1 (pc' := 163) (pl' := [some (.ref 0), some (.int (nI k)), some (.ref 4), some (.int (nI 0)), some (.int (nI (p + 1))), some (.int (nI m)), some (.int (nI 6)), some (.int (nI tg)), some (.int (sk 0)), some (.int (sk 1)), none]) (st' := [(.int (nI (p + 1)))]) (W1 := (lsW (nI sz) st bg sk se)) (bs := []) rfl rfl rfl ?_
                refine XG.goto eX0_value_163 (tgt := 168) (by decide) ?_
                refine XG.blk tX0_value_ok 93 1 (pc' := 170) (pl' := [some (.ref 0), some (.int (nI k)), some (.ref 4), some (.int (nI 0)), some (.int (nI (p + 1))), some (.int (nI m)), some (.int (nI 6)), some (.int (nI tg)), some (.int (sk 0)), some (.int (sk 1)), none]) (st' := []) (W1 := (lsW (nI sz) st bg sk se)) (bs := []) rfl rfl rfl ?_
                refine XG.goto eX0_value_170 (tgt := 254) (by decide) ?_
                have q15 : ((nI m) + (nI 1)) = (nI (m + 1)) := px_eadd rfl rfl
                refine XG.blk tX0_value_ok 138 1 (pc' := 257) (pl' := [some (.ref 0), some (.int (nI k)), some (.ref 4), some (.int (nI 0)), some (.int (nI (p + 1))), some (.int ((nI m) + (nI 1))), some (.int (nI 6)), some (.int (nI tg)), some (.int (sk 0)), some (.int (sk 1)), none]) (st' := []) (W1 := (lsW (nI sz) st bg sk se)) (bs := []) rfl rfl rfl ?_
                simp only [q15]
                refine XG.goto eX0_value_257 (tgt := 13) (by decide) ?_
                refine XG.weak (pl' := [some (.ref 0), some (.int (nI k)), some (.ref 4), some (.int (nI 0)), some (.int (nI (p + 1))), some (.int (nI (m + 1))), none, none, none, none, none]) ⟨rfl, rfl, rfl, rfl, rfl, rfl, trivial⟩ ?_
                exact h1 (Int32.not_le.mp h158)
          · exfalso
            have h83 := Decidable.not_not.mp h83
            have g83 : 6 = 1 := (nI_eq (a := 6) (b := 1) (by omega) (by omega)).mp h83
            omega
      · exfalso
        have h60 := Decidable.not_not.mp h60
        have g60 : 6 = 7 := (nI_eq (a := 6) (b := 7) (by omega) (by omega)).mp h60
        omega
set_option maxHeartbeats 400000 in
theorem law_val (d sz k : Nat) (hz : sz ≤ 404) (st bg se : Nat → Int32) (R : Int32) : ∀ (bs : List LBr) (p m : Nat) (sk : Nat → Int32), endsN bs → (∀ br, br ∈ bs → lbC br) → sgC st p (stL bs p) → p + (stL bs p).length ≤ sz → m ≤ p → R = lawV se bs → XG mX0_value (px_gS d (fun r W' => ∃ sk', W' = lsW (nI sz) st bg sk' se ∧ r = some (.int R))) 0 0 13 [some (.ref 0), some (.int (nI k)), some (.ref 4), some (.int (nI 0)), some (.int (nI p)), some (.int (nI m)), none, none, none, none, none] [] (lsW (nI sz) st bg sk se) := by
  intro bs
  induction bs with
  | nil => intro p m sk he; exact he.elim
  | cons br r ih =>
    intro p m sk he hc hs hp hm hR
    have hcb := hc br List.mem_cons_self
    have eL : ∀ (o : Option (Cde × Cde)), br.1 = o → lawV se (br :: r) = (match o with
      | none => (evV se br.2).getD 0
      | some cc => match evV se cc.1, evV se cc.2 with
        | some x, some y => if x < y then (evV se br.2).getD 0 else lawV se r
        | _, _ => 0) := fun o e => by rw [← e]; rfl
    -- the term that ends it
    have term : ∀ (p m : Nat) (sk : Nat → Int32), R = (evV se br.2).getD 0 → sgC st p (br.2 ++ [(7, 0)]) → p + br.2.length < sz → m ≤ p → XG mX0_value (px_gS d (fun r W' => ∃ sk', W' = lsW (nI sz) st bg sk' se ∧ r = some (.int R))) 0 0 13 [some (.ref 0), some (.int (nI k)), some (.ref 4), some (.int (nI 0)), some (.int (nI p)), some (.int (nI m)), none, none, none, none, none] [] (lsW (nI sz) st bg sk se) := by
      intro p m sk hR hs hp hm
      obtain ⟨s1, s2⟩ := sgC_app hs
      have h7 := (sgC_s s2).1
      have hev := ev_one (vars := se) hcb.1 (lstP sk 0)
      refine val_go d sz k hz st bg se R 1 br.2 0 p m sk s1 (hg32 hcb.1 0 (by decide)) (by omega) hm (fun hn => ?_) (fun sk' s' h1 h2 => ?_)
      · rw [hev] at hn
        cases hv : evV se br.2 with
        | none => rw [hR, hv]; rfl
        | some x => rw [hv] at hn; cases hn
      · rw [hev] at h1
        cases hv : evV se br.2 with
        | none => rw [hv] at h1; cases h1
        | some x =>
          rw [hv] at h1
          have h1 : some [x] = some s' := h1
          cases h1
          have h2 : [sk' 0] = [x] := h2
          refine end_go d sz k hz st bg se sk' R _ _ h7 (by omega) (by omega) ?_
          rw [hR, hv]; cases h2; rfl
    cases hb : br.1 with
    | none =>
      have e1 : stL (br :: r) p = br.2 ++ [(7, 0)] := by show (match br.1 with | none => _ | some cc => _) = _; rw [hb]
      rw [e1] at hs hp
      rw [eL _ hb] at hR
      exact term p m sk hR hs (by rw [List.length_append] at hp; have hp : p + (br.2.length + 1) ≤ sz := hp; omega) hm
    | some cc =>
      have hcc := hcb.2 cc hb
      have her : endsN r := by rcases he with h | h; rw [hb] at h; cases h; exact h
      have e1 : stL (br :: r) p = cc.1 ++ (cc.2 ++ ((6, p + cc.1.length + cc.2.length + 1 + br.2.length + 1) :: (br.2 ++ ((7, 0) :: stL r (p + cc.1.length + cc.2.length + 1 + br.2.length + 1))))) := by show (match br.1 with | none => _ | some cc => _) = _; rw [hb]
      rw [e1] at hs hp
      simp only [List.length_append, List.length_cons] at hp
      obtain ⟨s1, s2⟩ := sgC_app hs
      obtain ⟨s2, s3⟩ := sgC_app s2
      obtain ⟨s3, s4⟩ := sgC_s s3
      have s5 : sgC st (p + cc.1.length + cc.2.length + 1) (br.2 ++ [(7, 0)]) := by
        obtain ⟨q1, q2⟩ := sgC_app s4
        have q3 := (sgC_s q2).1
        intro i x hi
        by_cases hil : i < br.2.length
        · rw [List.getElem?_append_left hil] at hi; exact q1 i x hi
        · rw [List.getElem?_append_right (by omega)] at hi
          have h9 := (List.getElem?_eq_some_iff.mp hi).1
          simp at h9
          obtain rfl : i = br.2.length := by omega
          rw [Nat.sub_self] at hi
          cases hi
          exact q3
      have s6 : sgC st (p + cc.1.length + cc.2.length + 1 + br.2.length + 1) (stL r (p + cc.1.length + cc.2.length + 1 + br.2.length + 1)) := by
        obtain ⟨q1, q2⟩ := sgC_app s4
        exact (sgC_s q2).2
      rw [eL _ hb] at hR
      have hR : R = (match evV se cc.1, evV se cc.2 with
        | some x, some y => if x < y then (evV se br.2).getD 0 else lawV se r
        | _, _ => 0) := hR
      have hev1 := ev_one (vars := se) hcc.1 (lstP sk 0)
      refine val_go d sz k hz st bg se R 1 cc.1 0 p m sk s1 (hg32 hcc.1 0 (by decide)) (by omega) hm (fun hn => ?_) (fun sk1 l1 h1 h2 => ?_)
      · rw [hev1] at hn
        cases hv : evV se cc.1 with
        | none => rw [hR, hv]
        | some x => rw [hv] at hn; cases hn
      · rw [hev1] at h1
        cases hv1 : evV se cc.1 with
        | none => rw [hv1] at h1; cases h1
        | some x =>
          rw [hv1] at h1 hR
          have h1 : some [x] = some l1 := h1
          cases h1
          have hev2 := ev_one (vars := se) hcc.2 (lstP sk1 1)
          rw [h2] at hev2
          refine val_go d sz k hz st bg se R 2 cc.2 1 _ _ sk1 s2 (hg32 hcc.2 1 (by decide)) (by omega) (by omega) (fun hn => ?_) (fun sk2 l2 h3 h4 => ?_)
          · rw [h2, hev2] at hn
            cases hv : evV se cc.2 with
            | none => rw [hR, hv]
            | some y => rw [hv] at hn; cases hn
          · rw [h2, hev2] at h3
            cases hv2 : evV se cc.2 with
            | none => rw [hv2] at h3; cases h3
            | some y =>
              rw [hv2] at h3 hR
              have h3 : some [y, x] = some l2 := h3
              cases h3
              have h4 : [sk2 1, sk2 0] = [y, x] := h4
              have hy : sk2 1 = y := by cases h4; rfl
              have hx : sk2 0 = x := by cases h4; rfl
              have hR : R = if x < y then (evV se br.2).getD 0 else lawV se r := hR
              refine test_go d sz k hz st bg se sk2 R _ _ _ (by omega) s3 (by omega) (by omega) (fun hlt => ?_) (fun hlt => ?_)
              · rw [hx, hy] at hlt
                rw [if_pos hlt] at hR
                exact term _ _ sk2 hR s5 (by omega) (by omega)
              · rw [hx, hy] at hlt
                rw [if_neg hlt] at hR
                exact ih (p + cc.1.length + cc.2.length + 1 + br.2.length + 1) _ sk2 her (fun b hb => hc b (List.mem_cons_of_mem _ hb)) s6 (by omega) (by omega) hR
/-- the steps of law k -/
def lwC (k : Nat) (lw : Option (List LBr)) (p : Nat) : List (Nat × Nat) := match lw with
  | none => if k = 0 then [(1, 0), (7, 0)] else [(0, 0), (7, 0)]
  | some bs => stL bs p
set_option maxHeartbeats 400000 in
theorem cc_value (d sz k p : Nat) (hk : k < 3) (hz : sz ≤ 404) (st bg se sk : Nat → Int32) (lw : Option (List LBr)) (hlw : ∀ bs, lw = some bs → (∀ br, br ∈ bs → lbC br) ∧ endsN bs) (hb : bg k = nI p) (hs : sgC st p (lwC k lw p)) (hp : p + (lwC k lw p).length ≤ sz) : Con mX0_value d [.ref 0, .int (nI k), .ref 4] (lsW (nI sz) st bg sk se) (fun r W' => ∃ sk', W' = lsW (nI sz) st bg sk' se ∧ r = some (.int (lawO se lw (if k = 0 then se 0 else nI 0)))) := by
  refine Con.of (by decide) (Nat.le_of_ble_eq_true rfl) ?_
  have q1 : (nI k).toNatClampNeg = k := nI_clamp (by omega)
  have q2 : (bg k) = (nI p) := hb
  refine XG.blk tX0_value_ok 0 9 (pc' := 13) (pl' := [some (.ref 0), some (.int (nI k)), some (.ref 4), some (.int (nI 0)), some (.int (bg (nI k).toNatClampNeg)), some (.int (nI 0)), none, none, none, none, none]) (st' := []) (W1 := (lsW (nI sz) st bg sk se)) (bs := [px_vb (nI k) 3]) rfl rfl (by (try simp only [q1, q2]); exact (px_all (px_vbN (by omega) (by decide)) rfl)) ?_
  simp only [q1, q2]
  cases lw with
  | some bs => exact law_val d sz k hz st bg se _ bs p 0 sk (hlw bs rfl).2 (hlw bs rfl).1 hs hp (Nat.zero_le _) rfl
  | none =>
    have hs1 : ∃ x : Nat × Nat, lwC k none p = [x, (7, 0)] ∧ (x = (1, 0) ∧ k = 0 ∨ x = (0, 0) ∧ k ≠ 0) := by
      by_cases h0 : k = 0
      · exact ⟨(1, 0), if_pos h0, Or.inl ⟨rfl, h0⟩⟩
      · exact ⟨(0, 0), if_neg h0, Or.inr ⟨rfl, h0⟩⟩
    obtain ⟨x, hx, hx2⟩ := hs1
    rw [hx] at hs hp
    have hp : p + 2 ≤ sz := hp
    have s1 : sgC st p [x] := fun i y hi => hs i y (by rw [show [x, (7, 0)] = [x] ++ [(7, 0)] from rfl, List.getElem?_append_left (List.getElem?_eq_some_iff.mp hi).1]; exact hi)
    have s2 := (sgC_s (sgC_s hs).2).1
    refine val_go d sz k hz st bg se _ 1 [x] 0 p 0 sk s1 ?_ (by show p + 1 ≤ sz; omega) (Nat.zero_le _) ?_ (fun sk' l h1 h2 => ?_)
    · rcases hx2 with ⟨rfl, -⟩ | ⟨rfl, -⟩
      · exact Or.inr (Or.inl ⟨rfl, by show 0 < 9; decide, by decide, rfl⟩)
      · exact Or.inl ⟨rfl, by show 0 < 10000; decide, by decide, rfl⟩
    · intro hn
      rcases hx2 with ⟨rfl, -⟩ | ⟨rfl, -⟩
      · rw [ev1 rfl] at hn; cases hn
      · rw [ev0 rfl] at hn; cases hn
    · refine end_go d sz k hz st bg se sk' _ (p + 1) (0 + 1) s2 (by omega) (by omega) ?_
      show (if k = 0 then se 0 else nI 0) = sk' 0
      have h2 : [sk' 0] = l := h2
      rcases hx2 with ⟨rfl, h0⟩ | ⟨rfl, h0⟩
      · rw [ev1 rfl] at h1
        have h1 : some [se 0] = some l := h1
        cases h1; rw [if_pos h0]; exact (List.cons.inj h2).1.symm
      · rw [ev0 rfl] at h1
        have h1 : some [nI 0] = some l := h1
        cases h1; rw [if_neg h0]; exact (List.cons.inj h2).1.symm
