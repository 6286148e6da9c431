/-! THE CLASS: laws. Steps: an int a step, 8 times what it is of, and its kind. -/
def lsW (z : Int32) (st bg sk se : Nat → Int32) : px_W := [.inr (0, [.ref 1, .ref 2, .ref 3, .int z]), .inl (.int, 404, .inl st), .inl (.int, 3, .inl bg), .inl (.int, 32, .inl sk), .inl (.int, 16, .inl se)]
theorem enc_k {x k : Nat} (hk : k < 8) (hx : x < 100000) : nI (8 * x + k) &&& nI 7 = nI k := by
  rw [pk_andN (by omega) 3 (by decide), show (8 * x + k) % 2 ^ 3 = k by omega]
theorem enc_x {x k : Nat} (hk : k < 8) (hx : x < 100000) : nI (8 * x + k) >>> (nI 3 &&& 31) = nI x := by
  rw [pk_shrN (by omega) _ 3 (by decide), show (8 * x + k) / 2 ^ 3 = x by omega]
theorem nzB {x : Int32} (h : ¬ x = 0) : (!(x == 0)) = true := by simp [h]
theorem msk31 {n : Nat} (h : n < 32) : nI n &&& nI 31 = nI n := by rw [pk_andN (by omega) 5 (by decide), Nat.mod_eq_of_lt (by omega)]
theorem msk15 {n : Nat} (h : n < 16) : nI n &&& nI 15 = nI n := by rw [pk_andN (by omega) 4 (by decide), Nat.mod_eq_of_lt (by omega)]
/-- steps from p on -/
def sgC (st : Nat → Int32) (p : Nat) (c : List (Nat × Nat)) : Prop := ∀ i x, c[i]? = some x → st (p + i) = nI (8 * x.2 + x.1)
theorem sgC_s {st : Nat → Int32} {p : Nat} {x : Nat × Nat} {c : List (Nat × Nat)} (h : sgC st p (x :: c)) : st p = nI (8 * x.2 + x.1) ∧ sgC st (p + 1) c := by
  refine ⟨h 0 x rfl, fun i y hi => ?_⟩
  have := h (i + 1) y hi
  rw [show p + (i + 1) = p + 1 + i by omega] at this; exact this
theorem sgC_app {st : Nat → Int32} {p : Nat} {c c2 : List (Nat × Nat)} (h : sgC st p (c ++ c2)) : sgC st p c ∧ sgC st (p + c.length) c2 := by
  refine ⟨fun i x hi => h i x (by rw [List.getElem?_append_left (List.getElem?_eq_some_iff.mp hi).1]; exact hi), fun i x hi => ?_⟩
  have := h (c.length + i) x (by rw [List.getElem?_append_right (by omega), show c.length + i - c.length = i by omega]; exact hi)
  rw [show p + (c.length + i) = p + c.length + i by omega] at this; exact this
set_option maxHeartbeats 400000 in
theorem val_go (d sz k : Nat) (hz : sz ≤ 404) (st bg se : Nat → Int32) (R : Int32) (e : Nat) : ∀ (c : Cde) (dp p m : Nat) (sk : Nat → Int32), sgC st p c → hgC 32 e c dp → p + c.length ≤ sz → m ≤ p → (evC se c (lstP sk dp) = none → R = 0) → (∀ sk' s', evC se c (lstP sk dp) = some s' → lstP sk' e = s' → XG mX0_value (px_gS d (fun r W' => ∃ sk', W' = lsW (nI sz) st bg sk' se ∧ r = some (.int R))) 0 0 13 [some (.ref 0), some (.int (nI k)), some (.ref 4), some (.int (nI e)), some (.int (nI (p + c.length))), some (.int (nI (m + c.length))), none, none, none, none, none] [] (lsW (nI sz) st bg sk' se)) → XG mX0_value (px_gS d (fun r W' => ∃ sk', W' = lsW (nI sz) st bg sk' se ∧ r = some (.int R))) 0 0 13 [some (.ref 0), some (.int (nI k)), some (.ref 4), some (.int (nI dp)), some (.int (nI p)), some (.int (nI m)), none, none, none, none, none] [] (lsW (nI sz) st bg sk se) := by
  intro c
  induction c with
  | nil =>
    intro dp p m sk hs hh hp hm hn hk
    have hh : dp = e := hh
    subst hh
    exact hk sk _ rfl rfl
  | cons x c ih =>
    intro dp p m sk hs hh hp hm hn hk
    obtain ⟨hx, hs'⟩ := sgC_s hs
    have hp : p + (c.length + 1) ≤ sz := hp
    have hk' : ∀ n, p + (x :: c).length = n → p + 1 + c.length = n := fun n h => by rw [← h]; show p + 1 + c.length = p + (c.length + 1); omega
    have el : p + (x :: c).length = p + 1 + c.length := by show p + (c.length + 1) = _; omega
    have em : m + (x :: c).length = m + 1 + c.length := by show m + (c.length + 1) = _; omega
    rw [el, em] at hk
    rcases hh with ⟨h1, h2, h3, h4⟩ | ⟨h1, h2, h3, h4⟩ | ⟨h1, hx0, h2, h3, h4⟩
    · rw [h1] at hx
      refine XG.blk tX0_value_ok 9 2 (pc' := 18) (pl' := [some (.ref 0), some (.int (nI k)), some (.ref 4), some (.int (nI dp)), some (.int (nI p)), some (.int (nI m)), none, none, none, none, none]) (st' := [(.int (nI 404)), (.int (nI m))]) (W1 := (lsW (nI sz) st bg sk se)) (bs := []) rfl rfl rfl ?_
      refine XG.br eX0_value_18 (P := (nI 404) ≤ (nI m)) (r := []) rfl (tgt := 260) (by decide) (fun h18 => ?_) (fun h18 => ?_)
      · exfalso
        have g18 : 404 ≤ m := (nI_leI (a := 404) (b := m) (by omega) (by omega)).mp h18
        omega
      · skip
        have g18 : ¬ 404 ≤ m := (fun z => h18 ((nI_leI (a := 404) (b := m) (by omega) (by omega)).mpr z))
        have q1 : (nI sz) = (nI sz) := rfl
        refine XG.blk tX0_value_ok 12 3 (pc' := 27) (pl' := [some (.ref 0), some (.int (nI k)), some (.ref 4), some (.int (nI dp)), some (.int (nI p)), some (.int (nI m)), none, none, none, none, none]) (st' := [(.int (nI sz)), (.int (nI p))]) (W1 := (lsW (nI sz) st bg sk se)) (bs := []) rfl rfl rfl ?_
        refine XG.br eX0_value_27 (P := (nI sz) ≤ (nI p)) (r := []) rfl (tgt := 260) (by decide) (fun h27 => ?_) (fun h27 => ?_)
        · exfalso
          have g27 : sz ≤ p := (nI_leI (a := sz) (b := p) (by omega) (by omega)).mp h27
          omega
        · skip
          have g27 : ¬ sz ≤ p := (fun z => h27 ((nI_leI (a := sz) (b := p) (by omega) (by omega)).mpr z))
          have q2 : (nI p).toNatClampNeg = p := nI_clamp (by omega)
          have q3 : (st p) = (nI (8 * x.2 + 0)) := hx
          have q4 : ((nI (8 * x.2 + 0)) &&& (nI 7)) = (nI 0) := enc_k (by decide) (by omega)
          have q5 : ((nI (8 * x.2 + 0)) >>> ((nI 3) &&& 31)) = (nI x.2) := enc_x (by decide) (by omega)
          have q6 : ((nI p) + (nI 1)) = (nI (p + 1)) := px_eadd rfl rfl
          refine XG.blk tX0_value_ok 16 17 (pc' := 60) (pl' := [some (.ref 0), some (.int (nI k)), some (.ref 4), some (.int (nI dp)), some (.int ((nI p) + (nI 1))), some (.int (nI m)), some (.int ((st (nI p).toNatClampNeg) &&& (nI 7))), some (.int ((st (nI p).toNatClampNeg) >>> ((nI 3) &&& 31))), none, none, none]) (st' := [(.int (nI 7)), (.int ((st (nI p).toNatClampNeg) &&& (nI 7)))]) (W1 := (lsW (nI sz) st bg sk se)) (bs := [px_vb (nI p) 404, px_vb (nI p) 404]) rfl rfl (by (try simp only [q2, q3, q4, q5, q6]); exact (px_all (px_vbN (by omega) (by decide)) (px_all (px_vbN (by omega) (by decide)) rfl))) ?_
          simp only [q2, q3, q4, q5, q6]
          refine XG.br eX0_value_60 (P := ¬ (nI 0) = (nI 7)) (r := []) rfl (tgt := 75) (by decide) (fun h60 => ?_) (fun h60 => ?_)
          · skip
            have g60 : ¬ 0 = 7 := (fun z => h60 ((nI_eq (a := 0) (b := 7) (by omega) (by omega)).mpr z))
            refine XG.blk tX0_value_ok 43 1 (pc' := 77) (pl' := [some (.ref 0), some (.int (nI k)), some (.ref 4), some (.int (nI dp)), some (.int (nI (p + 1))), some (.int (nI m)), some (.int (nI 0)), some (.int (nI x.2)), none, none, none]) (st' := [(.int (nI 0))]) (W1 := (lsW (nI sz) st bg sk se)) (bs := []) rfl rfl rfl ?_
            refine XG.br eX0_value_77 (P := (nI 0) = 0) (r := []) rfl (tgt := 86) (by decide) (fun h77 => ?_) (fun h77 => ?_)
            · skip
              have g77 : 0 = 0 := (nI_eq (a := 0) (b := 0) (by omega) (by omega)).mp h77
              have q7 : ((nI dp) &&& (nI 31)) = (nI dp) := msk31 (by omega)
              refine XG.blk tX0_value_ok 48 6 (pc' := 96) (pl' := [some (.ref 0), some (.int (nI k)), some (.ref 4), some (.int (nI dp)), some (.int (nI (p + 1))), some (.int (nI m)), some (.int (nI 0)), some (.int (nI x.2)), none, none, none]) (st' := [(.int (nI 0)), (.int ((nI dp) &&& (nI 31))), (.ref 3)]) (W1 := (lsW (nI sz) st bg sk se)) (bs := []) rfl rfl rfl ?_
              simp only [q7]
              refine XG.br eX0_value_96 (P := ¬ (nI 0) = 0) (r := [(.int (nI dp)), (.ref 3)]) rfl (tgt := 104) (by decide) (fun h96 => ?_) (fun h96 => ?_)
              · exfalso
                have g96 : ¬ 0 = 0 := (fun z => h96 ((nI_eq (a := 0) (b := 0) (by omega) (by omega)).mpr z))
                omega
              · skip
                have h96 := Decidable.not_not.mp h96
                have g96 : 0 = 0 := (nI_eq (a := 0) (b := 0) (by omega) (by omega)).mp h96
                refine XG.blk tX0_value_ok 55 1 (pc' := 101) (pl' := [some (.ref 0), some (.int (nI k)), some (.ref 4), some (.int (nI dp)), some (.int (nI (p + 1))), some (.int (nI m)), some (.int (nI 0)), some (.int (nI x.2)), none, none, none]) (st' := [(.int (nI x.2)), (.int (nI dp)), (.ref 3)]) (W1 := (lsW (nI sz) st bg sk se)) (bs := []) rfl rfl rfl ?_
                refine XG.goto eX0_value_101 (tgt := 111) (by decide) ?_
                have q8 : (nI dp).toNatClampNeg = dp := nI_clamp (by omega)
                have q9 : ((nI dp) + (nI 1)) = (nI (dp + 1)) := px_eadd rfl rfl
                refine XG.blk tX0_value_ok 62 2 (pc' := 115) (pl' := [some (.ref 0), some (.int (nI k)), some (.ref 4), some (.int ((nI dp) + (nI 1))), some (.int (nI (p + 1))), some (.int (nI m)), some (.int (nI 0)), some (.int (nI x.2)), none, none, none]) (st' := []) (W1 := (lsW (nI sz) st bg (upd sk (nI dp).toNatClampNeg (nI x.2)) se)) (bs := [px_vb (nI dp) 32]) rfl rfl (by (try simp only [q8, q9]); exact (px_all (px_vbN (by omega) (by decide)) rfl)) ?_
                simp only [q8, q9]
                refine XG.goto eX0_value_115 (tgt := 254) (by decide) ?_
                have q10 : ((nI m) + (nI 1)) = (nI (m + 1)) := px_eadd rfl rfl
                refine XG.blk tX0_value_ok 138 1 (pc' := 257) (pl' := [some (.ref 0), some (.int (nI k)), some (.ref 4), some (.int (nI (dp + 1))), some (.int (nI (p + 1))), some (.int ((nI m) + (nI 1))), some (.int (nI 0)), some (.int (nI x.2)), none, none, none]) (st' := []) (W1 := (lsW (nI sz) st bg (upd sk dp (nI x.2)) se)) (bs := []) rfl rfl rfl ?_
                simp only [q10]
                refine XG.goto eX0_value_257 (tgt := 13) (by decide) ?_
                refine XG.weak (pl' := [some (.ref 0), some (.int (nI k)), some (.ref 4), some (.int (nI (dp + 1))), some (.int (nI (p + 1))), some (.int (nI (m + 1))), none, none, none, none, none]) ⟨rfl, rfl, rfl, rfl, rfl, rfl, trivial⟩ ?_
                refine ih (dp + 1) (p + 1) (m + 1) _ hs' h4 (by omega) (by omega) (fun z9 => hn ?_) (fun sk' s' q1 q2 => hk sk' s' ?_ q2)
                · rw [ev0 h1, ← z9]; show _ = evC se c (upd sk dp _ dp :: lstP _ dp); rw [pk_us, lstP_up _ _ _ _ (Nat.le_refl _)]
                · rw [ev0 h1, ← q1]; show _ = evC se c (upd sk dp _ dp :: lstP _ dp); rw [pk_us, lstP_up _ _ _ _ (Nat.le_refl _)]
            · exfalso
              have g77 : ¬ 0 = 0 := (fun z => h77 ((nI_eq (a := 0) (b := 0) (by omega) (by omega)).mpr z))
              omega
          · exfalso
            have h60 := Decidable.not_not.mp h60
            have g60 : 0 = 7 := (nI_eq (a := 0) (b := 7) (by omega) (by omega)).mp h60
            omega
    · rw [h1] at hx
      refine XG.blk tX0_value_ok 9 2 (pc' := 18) (pl' := [some (.ref 0), some (.int (nI k)), some (.ref 4), some (.int (nI dp)), some (.int (nI p)), some (.int (nI m)), none, none, none, none, none]) (st' := [(.int (nI 404)), (.int (nI m))]) (W1 := (lsW (nI sz) st bg sk se)) (bs := []) rfl rfl rfl ?_
      refine XG.br eX0_value_18 (P := (nI 404) ≤ (nI m)) (r := []) rfl (tgt := 260) (by decide) (fun h18 => ?_) (fun h18 => ?_)
      · exfalso
        have g18 : 404 ≤ m := (nI_leI (a := 404) (b := m) (by omega) (by omega)).mp h18
        omega
      · skip
        have g18 : ¬ 404 ≤ m := (fun z => h18 ((nI_leI (a := 404) (b := m) (by omega) (by omega)).mpr z))
        have q1 : (nI sz) = (nI sz) := rfl
        refine XG.blk tX0_value_ok 12 3 (pc' := 27) (pl' := [some (.ref 0), some (.int (nI k)), some (.ref 4), some (.int (nI dp)), some (.int (nI p)), some (.int (nI m)), none, none, none, none, none]) (st' := [(.int (nI sz)), (.int (nI p))]) (W1 := (lsW (nI sz) st bg sk se)) (bs := []) rfl rfl rfl ?_
        refine XG.br eX0_value_27 (P := (nI sz) ≤ (nI p)) (r := []) rfl (tgt := 260) (by decide) (fun h27 => ?_) (fun h27 => ?_)
        · exfalso
          have g27 : sz ≤ p := (nI_leI (a := sz) (b := p) (by omega) (by omega)).mp h27
          omega
        · skip
          have g27 : ¬ sz ≤ p := (fun z => h27 ((nI_leI (a := sz) (b := p) (by omega) (by omega)).mpr z))
          have q2 : (nI p).toNatClampNeg = p := nI_clamp (by omega)
          have q3 : (st p) = (nI (8 * x.2 + 1)) := hx
          have q4 : ((nI (8 * x.2 + 1)) &&& (nI 7)) = (nI 1) := enc_k (by decide) (by omega)
          have q5 : ((nI (8 * x.2 + 1)) >>> ((nI 3) &&& 31)) = (nI x.2) := enc_x (by decide) (by omega)
          have q6 : ((nI p) + (nI 1)) = (nI (p + 1)) := px_eadd rfl rfl
          refine XG.blk tX0_value_ok 16 17 (pc' := 60) (pl' := [some (.ref 0), some (.int (nI k)), some (.ref 4), some (.int (nI dp)), some (.int ((nI p) + (nI 1))), some (.int (nI m)), some (.int ((st (nI p).toNatClampNeg) &&& (nI 7))), some (.int ((st (nI p).toNatClampNeg) >>> ((nI 3) &&& 31))), none, none, none]) (st' := [(.int (nI 7)), (.int ((st (nI p).toNatClampNeg) &&& (nI 7)))]) (W1 := (lsW (nI sz) st bg sk se)) (bs := [px_vb (nI p) 404, px_vb (nI p) 404]) rfl rfl (by (try simp only [q2, q3, q4, q5, q6]); exact (px_all (px_vbN (by omega) (by decide)) (px_all (px_vbN (by omega) (by decide)) rfl))) ?_
          simp only [q2, q3, q4, q5, q6]
          refine XG.br eX0_value_60 (P := ¬ (nI 1) = (nI 7)) (r := []) rfl (tgt := 75) (by decide) (fun h60 => ?_) (fun h60 => ?_)
          · skip
            have g60 : ¬ 1 = 7 := (fun z => h60 ((nI_eq (a := 1) (b := 7) (by omega) (by omega)).mpr z))
            refine XG.blk tX0_value_ok 43 1 (pc' := 77) (pl' := [some (.ref 0), some (.int (nI k)), some (.ref 4), some (.int (nI dp)), some (.int (nI (p + 1))), some (.int (nI m)), some (.int (nI 1)), some (.int (nI x.2)), none, none, none]) (st' := [(.int (nI 1))]) (W1 := (lsW (nI sz) st bg sk se)) (bs := []) rfl rfl rfl ?_
            refine XG.br eX0_value_77 (P := (nI 1) = 0) (r := []) rfl (tgt := 86) (by decide) (fun h77 => ?_) (fun h77 => ?_)
            · exfalso
              have g77 : 1 = 0 := (nI_eq (a := 1) (b := 0) (by omega) (by omega)).mp h77
              omega
            · skip
              have g77 : ¬ 1 = 0 := (fun z => h77 ((nI_eq (a := 1) (b := 0) (by omega) (by omega)).mpr z))
              refine XG.blk tX0_value_ok 45 2 (pc' := 83) (pl' := [some (.ref 0), some (.int (nI k)), some (.ref 4), some (.int (nI dp)), some (.int (nI (p + 1))), some (.int (nI m)), some (.int (nI 1)), some (.int (nI x.2)), none, none, none]) (st' := [(.int (nI 1)), (.int (nI 1))]) (W1 := (lsW (nI sz) st bg sk se)) (bs := []) rfl rfl rfl ?_
              refine XG.br eX0_value_83 (P := ¬ (nI 1) = (nI 1)) (r := []) rfl (tgt := 118) (by decide) (fun h83 => ?_) (fun h83 => ?_)
              · exfalso
                have g83 : ¬ 1 = 1 := (fun z => h83 ((nI_eq (a := 1) (b := 1) (by omega) (by omega)).mpr z))
                omega
              · skip
                have h83 := Decidable.not_not.mp h83
                have g83 : 1 = 1 := (nI_eq (a := 1) (b := 1) (by omega) (by omega)).mp h83
                have q7 : ((nI dp) &&& (nI 31)) = (nI dp) := msk31 (by omega)
                refine XG.blk tX0_value_ok 48 6 (pc' := 96) (pl' := [some (.ref 0), some (.int (nI k)), some (.ref 4), some (.int (nI dp)), some (.int (nI (p + 1))), some (.int (nI m)), some (.int (nI 1)), some (.int (nI x.2)), none, none, none]) (st' := [(.int (nI 1)), (.int ((nI dp) &&& (nI 31))), (.ref 3)]) (W1 := (lsW (nI sz) st bg sk se)) (bs := []) rfl rfl rfl ?_
                simp only [q7]
                refine XG.br eX0_value_96 (P := ¬ (nI 1) = 0) (r := [(.int (nI dp)), (.ref 3)]) rfl (tgt := 104) (by decide) (fun h96 => ?_) (fun h96 => ?_)
                · skip
                  have g96 : ¬ 1 = 0 := (fun z => h96 ((nI_eq (a := 1) (b := 0) (by omega) (by omega)).mpr z))
                  have q8 : ((nI x.2) &&& (nI 15)) = (nI x.2) := msk15 (by omega)
                  have q9 : (nI x.2).toNatClampNeg = x.2 := nI_clamp (by omega)
                  have q10 : (nI dp).toNatClampNeg = dp := nI_clamp (by omega)
                  have q11 : ((nI dp) + (nI 1)) = (nI (dp + 1)) := px_eadd rfl rfl
                  refine XG.blk tX0_value_ok 57 7 (pc' := 115) (pl' := [some (.ref 0), some (.int (nI k)), some (.ref 4), some (.int ((nI dp) + (nI 1))), some (.int (nI (p + 1))), some (.int (nI m)), some (.int (nI 1)), some (.int (nI x.2)), none, none, none]) (st' := []) (W1 := (lsW (nI sz) st bg (upd sk (nI dp).toNatClampNeg (se ((nI x.2) &&& (nI 15)).toNatClampNeg)) se)) (bs := [px_vb ((nI x.2) &&& (nI 15)) 16, px_vb (nI dp) 32]) rfl rfl (by (try simp only [q8, q9, q10, q11]); exact (px_all (px_vbN (by omega) (by decide)) (px_all (px_vbN (by omega) (by decide)) rfl))) ?_
                  simp only [q8, q9, q10, q11]
                  refine XG.goto eX0_value_115 (tgt := 254) (by decide) ?_
                  have q12 : ((nI m) + (nI 1)) = (nI (m + 1)) := px_eadd rfl rfl
                  refine XG.blk tX0_value_ok 138 1 (pc' := 257) (pl' := [some (.ref 0), some (.int (nI k)), some (.ref 4), some (.int (nI (dp + 1))), some (.int (nI (p + 1))), some (.int ((nI m) + (nI 1))), some (.int (nI 1)), some (.int (nI x.2)), none, none, none]) (st' := []) (W1 := (lsW (nI sz) st bg (upd sk dp (se x.2)) se)) (bs := []) rfl rfl rfl ?_
                  simp only [q12]
                  refine XG.goto eX0_value_257 (tgt := 13) (by decide) ?_
                  refine XG.weak (pl' := [some (.ref 0), some (.int (nI k)), some (.ref 4), some (.int (nI (dp + 1))), some (.int (nI (p + 1))), some (.int (nI (m + 1))), none, none, none, none, none]) ⟨rfl, rfl, rfl, rfl, rfl, rfl, trivial⟩ ?_
                  refine ih (dp + 1) (p + 1) (m + 1) _ hs' h4 (by omega) (by omega) (fun z9 => hn ?_) (fun sk' s' q1 q2 => hk sk' s' ?_ q2)
                  · rw [ev1 h1, ← z9]; show _ = evC se c (upd sk dp _ dp :: lstP _ dp); rw [pk_us, lstP_up _ _ _ _ (Nat.le_refl _)]
                  · rw [ev1 h1, ← q1]; show _ = evC se c (upd sk dp _ dp :: lstP _ dp); rw [pk_us, lstP_up _ _ _ _ (Nat.le_refl _)]
                · exfalso
                  have h96 := Decidable.not_not.mp h96
                  have g96 : 1 = 0 := (nI_eq (a := 1) (b := 0) (by omega) (by omega)).mp h96
                  omega
          · exfalso
            have h60 := Decidable.not_not.mp h60
            have g60 : 1 = 7 := (nI_eq (a := 1) (b := 7) (by omega) (by omega)).mp h60
            omega
    · obtain ⟨q, rfl⟩ : ∃ q, dp = q + 2 := ⟨dp - 2, by omega⟩
      have e1 : lstP sk (q + 2) = sk (q + 1) :: sk q :: lstP sk q := rfl
      rw [e1] at hn hk
      rw [evO (by omega)] at hn
      simp only [evO (show 2 ≤ x.1 by omega)] at hk
      rcases h1 with h1 | h1 | h1 | h1
      · rw [h1] at hx hn
        rw [h1] at hk
        refine XG.blk tX0_value_ok 9 2 (pc' := 18) (pl' := [some (.ref 0), some (.int (nI k)), some (.ref 4), some (.int (nI (q + 2))), some (.int (nI p)), some (.int (nI m)), none, none, none, none, none]) (st' := [(.int (nI 404)), (.int (nI m))]) (W1 := (lsW (nI sz) st bg sk se)) (bs := []) rfl rfl rfl ?_
        refine XG.br eX0_value_18 (P := (nI 404) ≤ (nI m)) (r := []) rfl (tgt := 260) (by decide) (fun h18 => ?_) (fun h18 => ?_)
        · exfalso
          have g18 : 404 ≤ m := (nI_leI (a := 404) (b := m) (by omega) (by omega)).mp h18
          omega
        · skip
          have g18 : ¬ 404 ≤ m := (fun z => h18 ((nI_leI (a := 404) (b := m) (by omega) (by omega)).mpr z))
          have q1 : (nI sz) = (nI sz) := rfl
          refine XG.blk tX0_value_ok 12 3 (pc' := 27) (pl' := [some (.ref 0), some (.int (nI k)), some (.ref 4), some (.int (nI (q + 2))), some (.int (nI p)), some (.int (nI m)), none, none, none, none, none]) (st' := [(.int (nI sz)), (.int (nI p))]) (W1 := (lsW (nI sz) st bg sk se)) (bs := []) rfl rfl rfl ?_
          refine XG.br eX0_value_27 (P := (nI sz) ≤ (nI p)) (r := []) rfl (tgt := 260) (by decide) (fun h27 => ?_) (fun h27 => ?_)
          · exfalso
            have g27 : sz ≤ p := (nI_leI (a := sz) (b := p) (by omega) (by omega)).mp h27
            omega
          · skip
            have g27 : ¬ sz ≤ p := (fun z => h27 ((nI_leI (a := sz) (b := p) (by omega) (by omega)).mpr z))
            have q2 : (nI p).toNatClampNeg = p := nI_clamp (by omega)
            have q3 : (st p) = (nI (8 * x.2 + 2)) := hx
            have q4 : ((nI (8 * x.2 + 2)) &&& (nI 7)) = (nI 2) := enc_k (by decide) (by omega)
            have q5 : ((nI (8 * x.2 + 2)) >>> ((nI 3) &&& 31)) = (nI x.2) := enc_x (by decide) (by omega)
            have q6 : ((nI p) + (nI 1)) = (nI (p + 1)) := px_eadd rfl rfl
            refine XG.blk tX0_value_ok 16 17 (pc' := 60) (pl' := [some (.ref 0), some (.int (nI k)), some (.ref 4), some (.int (nI (q + 2))), some (.int ((nI p) + (nI 1))), some (.int (nI m)), some (.int ((st (nI p).toNatClampNeg) &&& (nI 7))), some (.int ((st (nI p).toNatClampNeg) >>> ((nI 3) &&& 31))), none, none, none]) (st' := [(.int (nI 7)), (.int ((st (nI p).toNatClampNeg) &&& (nI 7)))]) (W1 := (lsW (nI sz) st bg sk se)) (bs := [px_vb (nI p) 404, px_vb (nI p) 404]) rfl rfl (by (try simp only [q2, q3, q4, q5, q6]); exact (px_all (px_vbN (by omega) (by decide)) (px_all (px_vbN (by omega) (by decide)) rfl))) ?_
            simp only [q2, q3, q4, q5, q6]
            refine XG.br eX0_value_60 (P := ¬ (nI 2) = (nI 7)) (r := []) rfl (tgt := 75) (by decide) (fun h60 => ?_) (fun h60 => ?_)
            · skip
              have g60 : ¬ 2 = 7 := (fun z => h60 ((nI_eq (a := 2) (b := 7) (by omega) (by omega)).mpr z))
              refine XG.blk tX0_value_ok 43 1 (pc' := 77) (pl' := [some (.ref 0), some (.int (nI k)), some (.ref 4), some (.int (nI (q + 2))), some (.int (nI (p + 1))), some (.int (nI m)), some (.int (nI 2)), some (.int (nI x.2)), none, none, none]) (st' := [(.int (nI 2))]) (W1 := (lsW (nI sz) st bg sk se)) (bs := []) rfl rfl rfl ?_
              refine XG.br eX0_value_77 (P := (nI 2) = 0) (r := []) rfl (tgt := 86) (by decide) (fun h77 => ?_) (fun h77 => ?_)
              · exfalso
                have g77 : 2 = 0 := (nI_eq (a := 2) (b := 0) (by omega) (by omega)).mp h77
                omega
              · skip
                have g77 : ¬ 2 = 0 := (fun z => h77 ((nI_eq (a := 2) (b := 0) (by omega) (by omega)).mpr z))
                refine XG.blk tX0_value_ok 45 2 (pc' := 83) (pl' := [some (.ref 0), some (.int (nI k)), some (.ref 4), some (.int (nI (q + 2))), some (.int (nI (p + 1))), some (.int (nI m)), some (.int (nI 2)), some (.int (nI x.2)), none, none, none]) (st' := [(.int (nI 1)), (.int (nI 2))]) (W1 := (lsW (nI sz) st bg sk se)) (bs := []) rfl rfl rfl ?_
                refine XG.br eX0_value_83 (P := ¬ (nI 2) = (nI 1)) (r := []) rfl (tgt := 118) (by decide) (fun h83 => ?_) (fun h83 => ?_)
                · skip
                  have g83 : ¬ 2 = 1 := (fun z => h83 ((nI_eq (a := 2) (b := 1) (by omega) (by omega)).mpr z))
                  have q7 : ((nI (q + 2)) - (nI 2)) = (nI ((q + 2) - 2)) := px_esub rfl rfl (by omega)
                  have q8 : ((nI ((q + 2) - 2)) &&& (nI 31)) = (nI q) := (by rw [msk31 (by omega), show q + 2 - 2 = q by omega])
                  have q9 : (nI q).toNatClampNeg = q := nI_clamp (by omega)
                  have q10 : ((nI (q + 2)) - (nI 1)) = (nI ((q + 2) - 1)) := px_esub rfl rfl (by omega)
                  have q11 : ((nI ((q + 2) - 1)) &&& (nI 31)) = (nI (q + 1)) := (by rw [msk31 (by omega), show q + 2 - 1 = q + 1 by omega])
                  have q12 : (nI (q + 1)).toNatClampNeg = (q + 1) := nI_clamp (by omega)
                  refine XG.blk tX0_value_ok 65 20 (pc' := 148) (pl' := [some (.ref 0), some (.int (nI k)), some (.ref 4), some (.int (nI (q + 2))), some (.int (nI (p + 1))), some (.int (nI m)), some (.int (nI 2)), some (.int (nI x.2)), some (.int (sk (((nI (q + 2)) - (nI 2)) &&& (nI 31)).toNatClampNeg)), some (.int (sk (((nI (q + 2)) - (nI 1)) &&& (nI 31)).toNatClampNeg)), none]) (st' := [(.int (nI 6)), (.int (nI 2))]) (W1 := (lsW (nI sz) st bg sk se)) (bs := [px_vb (((nI (q + 2)) - (nI 2)) &&& (nI 31)) 32, px_vb (((nI (q + 2)) - (nI 1)) &&& (nI 31)) 32]) rfl rfl (by (try simp only [q7, q8, q9, q10, q11, q12]); exact (px_all (px_vbN (by omega) (by decide)) (px_all (px_vbN (by omega) (by decide)) rfl))) ?_
                  simp only [q7, q8, q9, q10, q11, q12]
                  refine XG.br eX0_value_148 (P := ¬ (nI 2) = (nI 6)) (r := []) rfl (tgt := 173) (by decide) (fun h148 => ?_) (fun h148 => ?_)
                  · skip
                    have g148 : ¬ 2 = 6 := (fun z => h148 ((nI_eq (a := 2) (b := 6) (by omega) (by omega)).mpr z))
                    refine XG.blk tX0_value_ok 95 2 (pc' := 176) (pl' := [some (.ref 0), some (.int (nI k)), some (.ref 4), some (.int (nI (q + 2))), some (.int (nI (p + 1))), some (.int (nI m)), some (.int (nI 2)), some (.int (nI x.2)), some (.int (sk q)), some (.int (sk (q + 1))), none]) (st' := [(.int (nI 2)), (.int (nI 2))]) (W1 := (lsW (nI sz) st bg sk se)) (bs := []) rfl rfl rfl ?_
                    refine XG.br eX0_value_176 (P := ¬ (nI 2) = (nI 2)) (r := []) rfl (tgt := 189) (by decide) (fun h176 => ?_) (fun h176 => ?_)
                    · exfalso
                      have g176 : ¬ 2 = 2 := (fun z => h176 ((nI_eq (a := 2) (b := 2) (by omega) (by omega)).mpr z))
                      omega
                    · skip
                      have h176 := Decidable.not_not.mp h176
                      have g176 : 2 = 2 := (nI_eq (a := 2) (b := 2) (by omega) (by omega)).mp h176
                      refine XG.blk tX0_value_ok 98 4 (pc' := 186) (pl' := [some (.ref 0), some (.int (nI k)), some (.ref 4), some (.int (nI (q + 2))), some (.int (nI (p + 1))), some (.int (nI m)), some (.int (nI 2)), some (.int (nI x.2)), some (.int (sk q)), some (.int (sk (q + 1))), some (.int ((sk q) + (sk (q + 1))))]) (st' := []) (W1 := (lsW (nI sz) st bg sk se)) (bs := []) rfl rfl rfl ?_
                      refine XG.goto eX0_value_186 (tgt := 238) (by decide) ?_
                      have q13 : ((nI (q + 2)) + (-1)) = (nI ((q + 2) - 1)) := px_edec rfl (by omega)
                      have q14 : ((nI ((q + 2) - 1)) - (nI 1)) = (nI (((q + 2) - 1) - 1)) := px_esub rfl rfl (by omega)
                      have q15 : ((nI (((q + 2) - 1) - 1)) &&& (nI 31)) = (nI q) := (by rw [msk31 (by omega), show q + 2 - 1 - 1 = q by omega])
                      have q16 : (nI q).toNatClampNeg = q := nI_clamp (by omega)
                      have q17 : ((nI m) + (nI 1)) = (nI (m + 1)) := px_eadd rfl rfl
                      refine XG.blk tX0_value_ok 128 11 (pc' := 257) (pl' := [some (.ref 0), some (.int (nI k)), some (.ref 4), some (.int ((nI (q + 2)) + (-1))), some (.int (nI (p + 1))), some (.int ((nI m) + (nI 1))), some (.int (nI 2)), some (.int (nI x.2)), some (.int (sk q)), some (.int (sk (q + 1))), some (.int ((sk q) + (sk (q + 1))))]) (st' := []) (W1 := (lsW (nI sz) st bg (upd sk ((((nI (q + 2)) + (-1)) - (nI 1)) &&& (nI 31)).toNatClampNeg ((sk q) + (sk (q + 1)))) se)) (bs := [px_vb ((((nI (q + 2)) + (-1)) - (nI 1)) &&& (nI 31)) 32]) rfl rfl (by (try simp only [q13, q14, q15, q16, q17]); exact (px_all (px_vbN (by omega) (by decide)) rfl)) ?_
                      simp only [q13, q14, q15, q16, q17]
                      refine XG.goto eX0_value_257 (tgt := 13) (by decide) ?_
                      refine XG.weak (pl' := [some (.ref 0), some (.int (nI k)), some (.ref 4), some (.int (nI (q + 1))), some (.int (nI (p + 1))), some (.int (nI (m + 1))), none, none, none, none, none]) ⟨rfl, rfl, rfl, (by rw [show q + 2 - 1 = q + 1 by omega]), rfl, rfl, trivial⟩ ?_
                      have eo : opF (nI 2) (sk q) (sk (q + 1)) = sk q + sk (q + 1) := by unfold opF; rw [if_pos rfl]
                      have hcn : ¬ (2 = 5 ∧ sk (q + 1) = 0) := (fun z => absurd z.1 (by decide))
                      rw [if_neg hcn, eo] at hn
                      refine ih (q + 1) (p + 1) (m + 1) _ hs' (by rw [show q + 1 = q + 2 - 1 by omega]; exact h4) (by omega) (by omega) (fun z9 => hn ?_) (fun sk' s' q1 q2 => hk sk' s' ?_ q2)
                      · rw [← z9]; show _ = evC se c (upd sk q _ q :: lstP _ q); rw [pk_us, lstP_up _ _ _ _ (Nat.le_refl _)]
                      · rw [if_neg hcn, eo, ← q1]; show _ = evC se c (upd sk q _ q :: lstP _ q); rw [pk_us, lstP_up _ _ _ _ (Nat.le_refl _)]
                  · exfalso
                    have h148 := Decidable.not_not.mp h148
                    have g148 : 2 = 6 := (nI_eq (a := 2) (b := 6) (by omega) (by omega)).mp h148
                    omega
                · exfalso
                  have h83 := Decidable.not_not.mp h83
                  have g83 : 2 = 1 := (nI_eq (a := 2) (b := 1) (by omega) (by omega)).mp h83
                  omega
            · exfalso
              have h60 := Decidable.not_not.mp h60
              have g60 : 2 = 7 := (nI_eq (a := 2) (b := 7) (by omega) (by omega)).mp h60
              omega
      · rw [h1] at hx hn
        rw [h1] at hk
        refine XG.blk tX0_value_ok 9 2 (pc' := 18) (pl' := [some (.ref 0), some (.int (nI k)), some (.ref 4), some (.int (nI (q + 2))), some (.int (nI p)), some (.int (nI m)), none, none, none, none, none]) (st' := [(.int (nI 404)), (.int (nI m))]) (W1 := (lsW (nI sz) st bg sk se)) (bs := []) rfl rfl rfl ?_
        refine XG.br eX0_value_18 (P := (nI 404) ≤ (nI m)) (r := []) rfl (tgt := 260) (by decide) (fun h18 => ?_) (fun h18 => ?_)
        · exfalso
          have g18 : 404 ≤ m := (nI_leI (a := 404) (b := m) (by omega) (by omega)).mp h18
          omega
        · skip
          have g18 : ¬ 404 ≤ m := (fun z => h18 ((nI_leI (a := 404) (b := m) (by omega) (by omega)).mpr z))
          have q1 : (nI sz) = (nI sz) := rfl
          refine XG.blk tX0_value_ok 12 3 (pc' := 27) (pl' := [some (.ref 0), some (.int (nI k)), some (.ref 4), some (.int (nI (q + 2))), some (.int (nI p)), some (.int (nI m)), none, none, none, none, none]) (st' := [(.int (nI sz)), (.int (nI p))]) (W1 := (lsW (nI sz) st bg sk se)) (bs := []) rfl rfl rfl ?_
          refine XG.br eX0_value_27 (P := (nI sz) ≤ (nI p)) (r := []) rfl (tgt := 260) (by decide) (fun h27 => ?_) (fun h27 => ?_)
          · exfalso
            have g27 : sz ≤ p := (nI_leI (a := sz) (b := p) (by omega) (by omega)).mp h27
            omega
          · skip
            have g27 : ¬ sz ≤ p := (fun z => h27 ((nI_leI (a := sz) (b := p) (by omega) (by omega)).mpr z))
            have q2 : (nI p).toNatClampNeg = p := nI_clamp (by omega)
            have q3 : (st p) = (nI (8 * x.2 + 3)) := hx
            have q4 : ((nI (8 * x.2 + 3)) &&& (nI 7)) = (nI 3) := enc_k (by decide) (by omega)
            have q5 : ((nI (8 * x.2 + 3)) >>> ((nI 3) &&& 31)) = (nI x.2) := enc_x (by decide) (by omega)
            have q6 : ((nI p) + (nI 1)) = (nI (p + 1)) := px_eadd rfl rfl
            refine XG.blk tX0_value_ok 16 17 (pc' := 60) (pl' := [some (.ref 0), some (.int (nI k)), some (.ref 4), some (.int (nI (q + 2))), some (.int ((nI p) + (nI 1))), some (.int (nI m)), some (.int ((st (nI p).toNatClampNeg) &&& (nI 7))), some (.int ((st (nI p).toNatClampNeg) >>> ((nI 3) &&& 31))), none, none, none]) (st' := [(.int (nI 7)), (.int ((st (nI p).toNatClampNeg) &&& (nI 7)))]) (W1 := (lsW (nI sz) st bg sk se)) (bs := [px_vb (nI p) 404, px_vb (nI p) 404]) rfl rfl (by (try simp only [q2, q3, q4, q5, q6]); exact (px_all (px_vbN (by omega) (by decide)) (px_all (px_vbN (by omega) (by decide)) rfl))) ?_
            simp only [q2, q3, q4, q5, q6]
            refine XG.br eX0_value_60 (P := ¬ (nI 3) = (nI 7)) (r := []) rfl (tgt := 75) (by decide) (fun h60 => ?_) (fun h60 => ?_)
            · skip
              have g60 : ¬ 3 = 7 := (fun z => h60 ((nI_eq (a := 3) (b := 7) (by omega) (by omega)).mpr z))
              refine XG.blk tX0_value_ok 43 1 (pc' := 77) (pl' := [some (.ref 0), some (.int (nI k)), some (.ref 4), some (.int (nI (q + 2))), some (.int (nI (p + 1))), some (.int (nI m)), some (.int (nI 3)), some (.int (nI x.2)), none, none, none]) (st' := [(.int (nI 3))]) (W1 := (lsW (nI sz) st bg sk se)) (bs := []) rfl rfl rfl ?_
              refine XG.br eX0_value_77 (P := (nI 3) = 0) (r := []) rfl (tgt := 86) (by decide) (fun h77 => ?_) (fun h77 => ?_)
              · exfalso
                have g77 : 3 = 0 := (nI_eq (a := 3) (b := 0) (by omega) (by omega)).mp h77
                omega
              · skip
                have g77 : ¬ 3 = 0 := (fun z => h77 ((nI_eq (a := 3) (b := 0) (by omega) (by omega)).mpr z))
                refine XG.blk tX0_value_ok 45 2 (pc' := 83) (pl' := [some (.ref 0), some (.int (nI k)), some (.ref 4), some (.int (nI (q + 2))), some (.int (nI (p + 1))), some (.int (nI m)), some (.int (nI 3)), some (.int (nI x.2)), none, none, none]) (st' := [(.int (nI 1)), (.int (nI 3))]) (W1 := (lsW (nI sz) st bg sk se)) (bs := []) rfl rfl rfl ?_
                refine XG.br eX0_value_83 (P := ¬ (nI 3) = (nI 1)) (r := []) rfl (tgt := 118) (by decide) (fun h83 => ?_) (fun h83 => ?_)
                · skip
                  have g83 : ¬ 3 = 1 := (fun z => h83 ((nI_eq (a := 3) (b := 1) (by omega) (by omega)).mpr z))
                  have q7 : ((nI (q + 2)) - (nI 2)) = (nI ((q + 2) - 2)) := px_esub rfl rfl (by omega)
                  have q8 : ((nI ((q + 2) - 2)) &&& (nI 31)) = (nI q) := (by rw [msk31 (by omega), show q + 2 - 2 = q by omega])
                  have q9 : (nI q).toNatClampNeg = q := nI_clamp (by omega)
                  have q10 : ((nI (q + 2)) - (nI 1)) = (nI ((q + 2) - 1)) := px_esub rfl rfl (by omega)
                  have q11 : ((nI ((q + 2) - 1)) &&& (nI 31)) = (nI (q + 1)) := (by rw [msk31 (by omega), show q + 2 - 1 = q + 1 by omega])
                  have q12 : (nI (q + 1)).toNatClampNeg = (q + 1) := nI_clamp (by omega)
                  refine XG.blk tX0_value_ok 65 20 (pc' := 148) (pl' := [some (.ref 0), some (.int (nI k)), some (.ref 4), some (.int (nI (q + 2))), some (.int (nI (p + 1))), some (.int (nI m)), some (.int (nI 3)), some (.int (nI x.2)), some (.int (sk (((nI (q + 2)) - (nI 2)) &&& (nI 31)).toNatClampNeg)), some (.int (sk (((nI (q + 2)) - (nI 1)) &&& (nI 31)).toNatClampNeg)), none]) (st' := [(.int (nI 6)), (.int (nI 3))]) (W1 := (lsW (nI sz) st bg sk se)) (bs := [px_vb (((nI (q + 2)) - (nI 2)) &&& (nI 31)) 32, px_vb (((nI (q + 2)) - (nI 1)) &&& (nI 31)) 32]) rfl rfl (by (try simp only [q7, q8, q9, q10, q11, q12]); exact (px_all (px_vbN (by omega) (by decide)) (px_all (px_vbN (by omega) (by decide)) rfl))) ?_
                  simp only [q7, q8, q9, q10, q11, q12]
                  refine XG.br eX0_value_148 (P := ¬ (nI 3) = (nI 6)) (r := []) rfl (tgt := 173) (by decide) (fun h148 => ?_) (fun h148 => ?_)
                  · skip
                    have g148 : ¬ 3 = 6 := (fun z => h148 ((nI_eq (a := 3) (b := 6) (by omega) (by omega)).mpr z))
                    refine XG.blk tX0_value_ok 95 2 (pc' := 176) (pl' := [some (.ref 0), some (.int (nI k)), some (.ref 4), some (.int (nI (q + 2))), some (.int (nI (p + 1))), some (.int (nI m)), some (.int (nI 3)), some (.int (nI x.2)), some (.int (sk q)), some (.int (sk (q + 1))), none]) (st' := [(.int (nI 2)), (.int (nI 3))]) (W1 := (lsW (nI sz) st bg sk se)) (bs := []) rfl rfl rfl ?_
                    refine XG.br eX0_value_176 (P := ¬ (nI 3) = (nI 2)) (r := []) rfl (tgt := 189) (by decide) (fun h176 => ?_) (fun h176 => ?_)
                    · skip
                      have g176 : ¬ 3 = 2 := (fun z => h176 ((nI_eq (a := 3) (b := 2) (by omega) (by omega)).mpr z))
                      refine XG.blk tX0_value_ok 103 2 (pc' := 192) (pl' := [some (.ref 0), some (.int (nI k)), some (.ref 4), some (.int (nI (q + 2))), some (.int (nI (p + 1))), some (.int (nI m)), some (.int (nI 3)), some (.int (nI x.2)), some (.int (sk q)), some (.int (sk (q + 1))), none]) (st' := [(.int (nI 3)), (.int (nI 3))]) (W1 := (lsW (nI sz) st bg sk se)) (bs := []) rfl rfl rfl ?_
                      refine XG.br eX0_value_192 (P := ¬ (nI 3) = (nI 3)) (r := []) rfl (tgt := 205) (by decide) (fun h192 => ?_) (fun h192 => ?_)
                      · exfalso
                        have g192 : ¬ 3 = 3 := (fun z => h192 ((nI_eq (a := 3) (b := 3) (by omega) (by omega)).mpr z))
                        omega
                      · skip
                        have h192 := Decidable.not_not.mp h192
                        have g192 : 3 = 3 := (nI_eq (a := 3) (b := 3) (by omega) (by omega)).mp h192
                        refine XG.blk tX0_value_ok 106 4 (pc' := 202) (pl' := [some (.ref 0), some (.int (nI k)), some (.ref 4), some (.int (nI (q + 2))), some (.int (nI (p + 1))), some (.int (nI m)), some (.int (nI 3)), some (.int (nI x.2)), some (.int (sk q)), some (.int (sk (q + 1))), some (.int ((sk q) - (sk (q + 1))))]) (st' := []) (W1 := (lsW (nI sz) st bg sk se)) (bs := []) rfl rfl rfl ?_
                        refine XG.goto eX0_value_202 (tgt := 238) (by decide) ?_
                        have q13 : ((nI (q + 2)) + (-1)) = (nI ((q + 2) - 1)) := px_edec rfl (by omega)
                        have q14 : ((nI ((q + 2) - 1)) - (nI 1)) = (nI (((q + 2) - 1) - 1)) := px_esub rfl rfl (by omega)
                        have q15 : ((nI (((q + 2) - 1) - 1)) &&& (nI 31)) = (nI q) := (by rw [msk31 (by omega), show q + 2 - 1 - 1 = q by omega])
                        have q16 : (nI q).toNatClampNeg = q := nI_clamp (by omega)
                        have q17 : ((nI m) + (nI 1)) = (nI (m + 1)) := px_eadd rfl rfl
                        refine XG.blk tX0_value_ok 128 11 (pc' := 257) (pl' := [some (.ref 0), some (.int (nI k)), some (.ref 4), some (.int ((nI (q + 2)) + (-1))), some (.int (nI (p + 1))), some (.int ((nI m) + (nI 1))), some (.int (nI 3)), some (.int (nI x.2)), some (.int (sk q)), some (.int (sk (q + 1))), some (.int ((sk q) - (sk (q + 1))))]) (st' := []) (W1 := (lsW (nI sz) st bg (upd sk ((((nI (q + 2)) + (-1)) - (nI 1)) &&& (nI 31)).toNatClampNeg ((sk q) - (sk (q + 1)))) se)) (bs := [px_vb ((((nI (q + 2)) + (-1)) - (nI 1)) &&& (nI 31)) 32]) rfl rfl (by (try simp only [q13, q14, q15, q16, q17]); exact (px_all (px_vbN (by omega) (by decide)) rfl)) ?_
                        simp only [q13, q14, q15, q16, q17]
                        refine XG.goto eX0_value_257 (tgt := 13) (by decide) ?_
                        refine XG.weak (pl' := [some (.ref 0), some (.int (nI k)), some (.ref 4), some (.int (nI (q + 1))), some (.int (nI (p + 1))), some (.int (nI (m + 1))), none, none, none, none, none]) ⟨rfl, rfl, rfl, (by rw [show q + 2 - 1 = q + 1 by omega]), rfl, rfl, trivial⟩ ?_
                        have eo : opF (nI 3) (sk q) (sk (q + 1)) = sk q - sk (q + 1) := by unfold opF; rw [if_neg (by decide), if_pos rfl]
                        have hcn : ¬ (3 = 5 ∧ sk (q + 1) = 0) := (fun z => absurd z.1 (by decide))
                        rw [if_neg hcn, eo] at hn
                        refine ih (q + 1) (p + 1) (m + 1) _ hs' (by rw [show q + 1 = q + 2 - 1 by omega]; exact h4) (by omega) (by omega) (fun z9 => hn ?_) (fun sk' s' q1 q2 => hk sk' s' ?_ q2)
                        · rw [← z9]; show _ = evC se c (upd sk q _ q :: lstP _ q); rw [pk_us, lstP_up _ _ _ _ (Nat.le_refl _)]
                        · rw [if_neg hcn, eo, ← q1]; show _ = evC se c (upd sk q _ q :: lstP _ q); rw [pk_us, lstP_up _ _ _ _ (Nat.le_refl _)]
                    · exfalso
                      have h176 := Decidable.not_not.mp h176
                      have g176 : 3 = 2 := (nI_eq (a := 3) (b := 2) (by omega) (by omega)).mp h176
                      omega
                  · exfalso
                    have h148 := Decidable.not_not.mp h148
                    have g148 : 3 = 6 := (nI_eq (a := 3) (b := 6) (by omega) (by omega)).mp h148
                    omega
                · exfalso
                  have h83 := Decidable.not_not.mp h83
                  have g83 : 3 = 1 := (nI_eq (a := 3) (b := 1) (by omega) (by omega)).mp h83
                  omega
            · exfalso
              have h60 := Decidable.not_not.mp h60
              have g60 : 3 = 7 := (nI_eq (a := 3) (b := 7) (by omega) (by omega)).mp h60
              omega
      · rw [h1] at hx hn
        rw [h1] at hk
        refine XG.blk tX0_value_ok 9 2 (pc' := 18) (pl' := [some (.ref 0), some (.int (nI k)), some (.ref 4), some (.int (nI (q + 2))), some (.int (nI p)), some (.int (nI m)), none, none, none, none, none]) (st' := [(.int (nI 404)), (.int (nI m))]) (W1 := (lsW (nI sz) st bg sk se)) (bs := []) rfl rfl rfl ?_
        refine XG.br eX0_value_18 (P := (nI 404) ≤ (nI m)) (r := []) rfl (tgt := 260) (by decide) (fun h18 => ?_) (fun h18 => ?_)
        · exfalso
          have g18 : 404 ≤ m := (nI_leI (a := 404) (b := m) (by omega) (by omega)).mp h18
          omega
        · skip
          have g18 : ¬ 404 ≤ m := (fun z => h18 ((nI_leI (a := 404) (b := m) (by omega) (by omega)).mpr z))
          have q1 : (nI sz) = (nI sz) := rfl
          refine XG.blk tX0_value_ok 12 3 (pc' := 27) (pl' := [some (.ref 0), some (.int (nI k)), some (.ref 4), some (.int (nI (q + 2))), some (.int (nI p)), some (.int (nI m)), none, none, none, none, none]) (st' := [(.int (nI sz)), (.int (nI p))]) (W1 := (lsW (nI sz) st bg sk se)) (bs := []) rfl rfl rfl ?_
          refine XG.br eX0_value_27 (P := (nI sz) ≤ (nI p)) (r := []) rfl (tgt := 260) (by decide) (fun h27 => ?_) (fun h27 => ?_)
          · exfalso
            have g27 : sz ≤ p := (nI_leI (a := sz) (b := p) (by omega) (by omega)).mp h27
            omega
          · skip
            have g27 : ¬ sz ≤ p := (fun z => h27 ((nI_leI (a := sz) (b := p) (by omega) (by omega)).mpr z))
            have q2 : (nI p).toNatClampNeg = p := nI_clamp (by omega)
            have q3 : (st p) = (nI (8 * x.2 + 4)) := hx
            have q4 : ((nI (8 * x.2 + 4)) &&& (nI 7)) = (nI 4) := enc_k (by decide) (by omega)
            have q5 : ((nI (8 * x.2 + 4)) >>> ((nI 3) &&& 31)) = (nI x.2) := enc_x (by decide) (by omega)
            have q6 : ((nI p) + (nI 1)) = (nI (p + 1)) := px_eadd rfl rfl
            refine XG.blk tX0_value_ok 16 17 (pc' := 60) (pl' := [some (.ref 0), some (.int (nI k)), some (.ref 4), some (.int (nI (q + 2))), some (.int ((nI p) + (nI 1))), some (.int (nI m)), some (.int ((st (nI p).toNatClampNeg) &&& (nI 7))), some (.int ((st (nI p).toNatClampNeg) >>> ((nI 3) &&& 31))), none, none, none]) (st' := [(.int (nI 7)), (.int ((st (nI p).toNatClampNeg) &&& (nI 7)))]) (W1 := (lsW (nI sz) st bg sk se)) (bs := [px_vb (nI p) 404, px_vb (nI p) 404]) rfl rfl (by (try simp only [q2, q3, q4, q5, q6]); exact (px_all (px_vbN (by omega) (by decide)) (px_all (px_vbN (by omega) (by decide)) rfl))) ?_
            simp only [q2, q3, q4, q5, q6]
            refine XG.br eX0_value_60 (P := ¬ (nI 4) = (nI 7)) (r := []) rfl (tgt := 75) (by decide) (fun h60 => ?_) (fun h60 => ?_)
            · skip
              have g60 : ¬ 4 = 7 := (fun z => h60 ((nI_eq (a := 4) (b := 7) (by omega) (by omega)).mpr z))
              refine XG.blk tX0_value_ok 43 1 (pc' := 77) (pl' := [some (.ref 0), some (.int (nI k)), some (.ref 4), some (.int (nI (q + 2))), some (.int (nI (p + 1))), some (.int (nI m)), some (.int (nI 4)), some (.int (nI x.2)), none, none, none]) (st' := [(.int (nI 4))]) (W1 := (lsW (nI sz) st bg sk se)) (bs := []) rfl rfl rfl ?_
              refine XG.br eX0_value_77 (P := (nI 4) = 0) (r := []) rfl (tgt := 86) (by decide) (fun h77 => ?_) (fun h77 => ?_)
              · exfalso
                have g77 : 4 = 0 := (nI_eq (a := 4) (b := 0) (by omega) (by omega)).mp h77
                omega
              · skip
                have g77 : ¬ 4 = 0 := (fun z => h77 ((nI_eq (a := 4) (b := 0) (by omega) (by omega)).mpr z))
                refine XG.blk tX0_value_ok 45 2 (pc' := 83) (pl' := [some (.ref 0), some (.int (nI k)), some (.ref 4), some (.int (nI (q + 2))), some (.int (nI (p + 1))), some (.int (nI m)), some (.int (nI 4)), some (.int (nI x.2)), none, none, none]) (st' := [(.int (nI 1)), (.int (nI 4))]) (W1 := (lsW (nI sz) st bg sk se)) (bs := []) rfl rfl rfl ?_
                refine XG.br eX0_value_83 (P := ¬ (nI 4) = (nI 1)) (r := []) rfl (tgt := 118) (by decide) (fun h83 => ?_) (fun h83 => ?_)
                · skip
                  have g83 : ¬ 4 = 1 := (fun z => h83 ((nI_eq (a := 4) (b := 1) (by omega) (by omega)).mpr z))
                  have q7 : ((nI (q + 2)) - (nI 2)) = (nI ((q + 2) - 2)) := px_esub rfl rfl (by omega)
                  have q8 : ((nI ((q + 2) - 2)) &&& (nI 31)) = (nI q) := (by rw [msk31 (by omega), show q + 2 - 2 = q by omega])
                  have q9 : (nI q).toNatClampNeg = q := nI_clamp (by omega)
                  have q10 : ((nI (q + 2)) - (nI 1)) = (nI ((q + 2) - 1)) := px_esub rfl rfl (by omega)
                  have q11 : ((nI ((q + 2) - 1)) &&& (nI 31)) = (nI (q + 1)) := (by rw [msk31 (by omega), show q + 2 - 1 = q + 1 by omega])
                  have q12 : (nI (q + 1)).toNatClampNeg = (q + 1) := nI_clamp (by omega)
                  refine XG.blk tX0_value_ok 65 20 (pc' := 148) (pl' := [some (.ref 0), some (.int (nI k)), some (.ref 4), some (.int (nI (q + 2))), some (.int (nI (p + 1))), some (.int (nI m)), some (.int (nI 4)), some (.int (nI x.2)), some (.int (sk (((nI (q + 2)) - (nI 2)) &&& (nI 31)).toNatClampNeg)), some (.int (sk (((nI (q + 2)) - (nI 1)) &&& (nI 31)).toNatClampNeg)), none]) (st' := [(.int (nI 6)), (.int (nI 4))]) (W1 := (lsW (nI sz) st bg sk se)) (bs := [px_vb (((nI (q + 2)) - (nI 2)) &&& (nI 31)) 32, px_vb (((nI (q + 2)) - (nI 1)) &&& (nI 31)) 32]) rfl rfl (by (try simp only [q7, q8, q9, q10, q11, q12]); exact (px_all (px_vbN (by omega) (by decide)) (px_all (px_vbN (by omega) (by decide)) rfl))) ?_
                  simp only [q7, q8, q9, q10, q11, q12]
                  refine XG.br eX0_value_148 (P := ¬ (nI 4) = (nI 6)) (r := []) rfl (tgt := 173) (by decide) (fun h148 => ?_) (fun h148 => ?_)
                  · skip
                    have g148 : ¬ 4 = 6 := (fun z => h148 ((nI_eq (a := 4) (b := 6) (by omega) (by omega)).mpr z))
                    refine XG.blk tX0_value_ok 95 2 (pc' := 176) (pl' := [some (.ref 0), some (.int (nI k)), some (.ref 4), some (.int (nI (q + 2))), some (.int (nI (p + 1))), some (.int (nI m)), some (.int (nI 4)), some (.int (nI x.2)), some (.int (sk q)), some (.int (sk (q + 1))), none]) (st' := [(.int (nI 2)), (.int (nI 4))]) (W1 := (lsW (nI sz) st bg sk se)) (bs := []) rfl rfl rfl ?_
                    refine XG.br eX0_value_176 (P := ¬ (nI 4) = (nI 2)) (r := []) rfl (tgt := 189) (by decide) (fun h176 => ?_) (fun h176 => ?_)
                    · skip
                      have g176 : ¬ 4 = 2 := (fun z => h176 ((nI_eq (a := 4) (b := 2) (by omega) (by omega)).mpr z))
                      refine XG.blk tX0_value_ok 103 2 (pc' := 192) (pl' := [some (.ref 0), some (.int (nI k)), some (.ref 4), some (.int (nI (q + 2))), some (.int (nI (p + 1))), some (.int (nI m)), some (.int (nI 4)), some (.int (nI x.2)), some (.int (sk q)), some (.int (sk (q + 1))), none]) (st' := [(.int (nI 3)), (.int (nI 4))]) (W1 := (lsW (nI sz) st bg sk se)) (bs := []) rfl rfl rfl ?_
                      refine XG.br eX0_value_192 (P := ¬ (nI 4) = (nI 3)) (r := []) rfl (tgt := 205) (by decide) (fun h192 => ?_) (fun h192 => ?_)
                      · skip
                        have g192 : ¬ 4 = 3 := (fun z => h192 ((nI_eq (a := 4) (b := 3) (by omega) (by omega)).mpr z))
                        refine XG.blk tX0_value_ok 111 2 (pc' := 208) (pl' := [some (.ref 0), some (.int (nI k)), some (.ref 4), some (.int (nI (q + 2))), some (.int (nI (p + 1))), some (.int (nI m)), some (.int (nI 4)), some (.int (nI x.2)), some (.int (sk q)), some (.int (sk (q + 1))), none]) (st' := [(.int (nI 4)), (.int (nI 4))]) (W1 := (lsW (nI sz) st bg sk se)) (bs := []) rfl rfl rfl ?_
                        refine XG.br eX0_value_208 (P := ¬ (nI 4) = (nI 4)) (r := []) rfl (tgt := 221) (by decide) (fun h208 => ?_) (fun h208 => ?_)
                        · exfalso
                          have g208 : ¬ 4 = 4 := (fun z => h208 ((nI_eq (a := 4) (b := 4) (by omega) (by omega)).mpr z))
                          omega
                        · skip
                          have h208 := Decidable.not_not.mp h208
                          have g208 : 4 = 4 := (nI_eq (a := 4) (b := 4) (by omega) (by omega)).mp h208
                          refine XG.blk tX0_value_ok 114 4 (pc' := 218) (pl' := [some (.ref 0), some (.int (nI k)), some (.ref 4), some (.int (nI (q + 2))), some (.int (nI (p + 1))), some (.int (nI m)), some (.int (nI 4)), some (.int (nI x.2)), some (.int (sk q)), some (.int (sk (q + 1))), some (.int ((sk q) * (sk (q + 1))))]) (st' := []) (W1 := (lsW (nI sz) st bg sk se)) (bs := []) rfl rfl rfl ?_
                          refine XG.goto eX0_value_218 (tgt := 238) (by decide) ?_
                          have q13 : ((nI (q + 2)) + (-1)) = (nI ((q + 2) - 1)) := px_edec rfl (by omega)
                          have q14 : ((nI ((q + 2) - 1)) - (nI 1)) = (nI (((q + 2) - 1) - 1)) := px_esub rfl rfl (by omega)
                          have q15 : ((nI (((q + 2) - 1) - 1)) &&& (nI 31)) = (nI q) := (by rw [msk31 (by omega), show q + 2 - 1 - 1 = q by omega])
                          have q16 : (nI q).toNatClampNeg = q := nI_clamp (by omega)
                          have q17 : ((nI m) + (nI 1)) = (nI (m + 1)) := px_eadd rfl rfl
                          refine XG.blk tX0_value_ok 128 11 (pc' := 257) (pl' := [some (.ref 0), some (.int (nI k)), some (.ref 4), some (.int ((nI (q + 2)) + (-1))), some (.int (nI (p + 1))), some (.int ((nI m) + (nI 1))), some (.int (nI 4)), some (.int (nI x.2)), some (.int (sk q)), some (.int (sk (q + 1))), some (.int ((sk q) * (sk (q + 1))))]) (st' := []) (W1 := (lsW (nI sz) st bg (upd sk ((((nI (q + 2)) + (-1)) - (nI 1)) &&& (nI 31)).toNatClampNeg ((sk q) * (sk (q + 1)))) se)) (bs := [px_vb ((((nI (q + 2)) + (-1)) - (nI 1)) &&& (nI 31)) 32]) rfl rfl (by (try simp only [q13, q14, q15, q16, q17]); exact (px_all (px_vbN (by omega) (by decide)) rfl)) ?_
                          simp only [q13, q14, q15, q16, q17]
                          refine XG.goto eX0_value_257 (tgt := 13) (by decide) ?_
                          refine XG.weak (pl' := [some (.ref 0), some (.int (nI k)), some (.ref 4), some (.int (nI (q + 1))), some (.int (nI (p + 1))), some (.int (nI (m + 1))), none, none, none, none, none]) ⟨rfl, rfl, rfl, (by rw [show q + 2 - 1 = q + 1 by omega]), rfl, rfl, trivial⟩ ?_
                          have eo : opF (nI 4) (sk q) (sk (q + 1)) = sk q * sk (q + 1) := by unfold opF; rw [if_neg (by decide), if_neg (by decide), if_pos rfl]
                          have hcn : ¬ (4 = 5 ∧ sk (q + 1) = 0) := (fun z => absurd z.1 (by decide))
                          rw [if_neg hcn, eo] at hn
                          refine ih (q + 1) (p + 1) (m + 1) _ hs' (by rw [show q + 1 = q + 2 - 1 by omega]; exact h4) (by omega) (by omega) (fun z9 => hn ?_) (fun sk' s' q1 q2 => hk sk' s' ?_ q2)
                          · rw [← z9]; show _ = evC se c (upd sk q _ q :: lstP _ q); rw [pk_us, lstP_up _ _ _ _ (Nat.le_refl _)]
                          · rw [if_neg hcn, eo, ← q1]; show _ = evC se c (upd sk q _ q :: lstP _ q); rw [pk_us, lstP_up _ _ _ _ (Nat.le_refl _)]
                      · exfalso
                        have h192 := Decidable.not_not.mp h192
                        have g192 : 4 = 3 := (nI_eq (a := 4) (b := 3) (by omega) (by omega)).mp h192
                        omega
                    · exfalso
                      have h176 := Decidable.not_not.mp h176
                      have g176 : 4 = 2 := (nI_eq (a := 4) (b := 2) (by omega) (by omega)).mp h176
                      omega
                  · exfalso
                    have h148 := Decidable.not_not.mp h148
                    have g148 : 4 = 6 := (nI_eq (a := 4) (b := 6) (by omega) (by omega)).mp h148
                    omega
                · exfalso
                  have h83 := Decidable.not_not.mp h83
                  have g83 : 4 = 1 := (nI_eq (a := 4) (b := 1) (by omega) (by omega)).mp h83
                  omega
            · exfalso
              have h60 := Decidable.not_not.mp h60
              have g60 : 4 = 7 := (nI_eq (a := 4) (b := 7) (by omega) (by omega)).mp h60
              omega
      · rw [h1] at hx hn
        rw [h1] at hk
        refine XG.blk tX0_value_ok 9 2 (pc' := 18) (pl' := [some (.ref 0), some (.int (nI k)), some (.ref 4), some (.int (nI (q + 2))), some (.int (nI p)), some (.int (nI m)), none, none, none, none, none]) (st' := [(.int (nI 404)), (.int (nI m))]) (W1 := (lsW (nI sz) st bg sk se)) (bs := []) rfl rfl rfl ?_
        refine XG.br eX0_value_18 (P := (nI 404) ≤ (nI m)) (r := []) rfl (tgt := 260) (by decide) (fun h18 => ?_) (fun h18 => ?_)
        · exfalso
          have g18 : 404 ≤ m := (nI_leI (a := 404) (b := m) (by omega) (by omega)).mp h18
          omega
        · skip
          have g18 : ¬ 404 ≤ m := (fun z => h18 ((nI_leI (a := 404) (b := m) (by omega) (by omega)).mpr z))
          have q1 : (nI sz) = (nI sz) := rfl
          refine XG.blk tX0_value_ok 12 3 (pc' := 27) (pl' := [some (.ref 0), some (.int (nI k)), some (.ref 4), some (.int (nI (q + 2))), some (.int (nI p)), some (.int (nI m)), none, none, none, none, none]) (st' := [(.int (nI sz)), (.int (nI p))]) (W1 := (lsW (nI sz) st bg sk se)) (bs := []) rfl rfl rfl ?_
          refine XG.br eX0_value_27 (P := (nI sz) ≤ (nI p)) (r := []) rfl (tgt := 260) (by decide) (fun h27 => ?_) (fun h27 => ?_)
          · exfalso
            have g27 : sz ≤ p := (nI_leI (a := sz) (b := p) (by omega) (by omega)).mp h27
            omega
          · skip
            have g27 : ¬ sz ≤ p := (fun z => h27 ((nI_leI (a := sz) (b := p) (by omega) (by omega)).mpr z))
            have q2 : (nI p).toNatClampNeg = p := nI_clamp (by omega)
            have q3 : (st p) = (nI (8 * x.2 + 5)) := hx
            have q4 : ((nI (8 * x.2 + 5)) &&& (nI 7)) = (nI 5) := enc_k (by decide) (by omega)
            have q5 : ((nI (8 * x.2 + 5)) >>> ((nI 3) &&& 31)) = (nI x.2) := enc_x (by decide) (by omega)
            have q6 : ((nI p) + (nI 1)) = (nI (p + 1)) := px_eadd rfl rfl
            refine XG.blk tX0_value_ok 16 17 (pc' := 60) (pl' := [some (.ref 0), some (.int (nI k)), some (.ref 4), some (.int (nI (q + 2))), some (.int ((nI p) + (nI 1))), some (.int (nI m)), some (.int ((st (nI p).toNatClampNeg) &&& (nI 7))), some (.int ((st (nI p).toNatClampNeg) >>> ((nI 3) &&& 31))), none, none, none]) (st' := [(.int (nI 7)), (.int ((st (nI p).toNatClampNeg) &&& (nI 7)))]) (W1 := (lsW (nI sz) st bg sk se)) (bs := [px_vb (nI p) 404, px_vb (nI p) 404]) rfl rfl (by (try simp only [q2, q3, q4, q5, q6]); exact (px_all (px_vbN (by omega) (by decide)) (px_all (px_vbN (by omega) (by decide)) rfl))) ?_
            simp only [q2, q3, q4, q5, q6]
            refine XG.br eX0_value_60 (P := ¬ (nI 5) = (nI 7)) (r := []) rfl (tgt := 75) (by decide) (fun h60 => ?_) (fun h60 => ?_)
            · skip
              have g60 : ¬ 5 = 7 := (fun z => h60 ((nI_eq (a := 5) (b := 7) (by omega) (by omega)).mpr z))
              refine XG.blk tX0_value_ok 43 1 (pc' := 77) (pl' := [some (.ref 0), some (.int (nI k)), some (.ref 4), some (.int (nI (q + 2))), some (.int (nI (p + 1))), some (.int (nI m)), some (.int (nI 5)), some (.int (nI x.2)), none, none, none]) (st' := [(.int (nI 5))]) (W1 := (lsW (nI sz) st bg sk se)) (bs := []) rfl rfl rfl ?_
              refine XG.br eX0_value_77 (P := (nI 5) = 0) (r := []) rfl (tgt := 86) (by decide) (fun h77 => ?_) (fun h77 => ?_)
              · exfalso
                have g77 : 5 = 0 := (nI_eq (a := 5) (b := 0) (by omega) (by omega)).mp h77
                omega
              · skip
                have g77 : ¬ 5 = 0 := (fun z => h77 ((nI_eq (a := 5) (b := 0) (by omega) (by omega)).mpr z))
                refine XG.blk tX0_value_ok 45 2 (pc' := 83) (pl' := [some (.ref 0), some (.int (nI k)), some (.ref 4), some (.int (nI (q + 2))), some (.int (nI (p + 1))), some (.int (nI m)), some (.int (nI 5)), some (.int (nI x.2)), none, none, none]) (st' := [(.int (nI 1)), (.int (nI 5))]) (W1 := (lsW (nI sz) st bg sk se)) (bs := []) rfl rfl rfl ?_
                refine XG.br eX0_value_83 (P := ¬ (nI 5) = (nI 1)) (r := []) rfl (tgt := 118) (by decide) (fun h83 => ?_) (fun h83 => ?_)
                · skip
                  have g83 : ¬ 5 = 1 := (fun z => h83 ((nI_eq (a := 5) (b := 1) (by omega) (by omega)).mpr z))
                  have q7 : ((nI (q + 2)) - (nI 2)) = (nI ((q + 2) - 2)) := px_esub rfl rfl (by omega)
                  have q8 : ((nI ((q + 2) - 2)) &&& (nI 31)) = (nI q) := (by rw [msk31 (by omega), show q + 2 - 2 = q by omega])
                  have q9 : (nI q).toNatClampNeg = q := nI_clamp (by omega)
                  have q10 : ((nI (q + 2)) - (nI 1)) = (nI ((q + 2) - 1)) := px_esub rfl rfl (by omega)
                  have q11 : ((nI ((q + 2) - 1)) &&& (nI 31)) = (nI (q + 1)) := (by rw [msk31 (by omega), show q + 2 - 1 = q + 1 by omega])
                  have q12 : (nI (q + 1)).toNatClampNeg = (q + 1) := nI_clamp (by omega)
                  refine XG.blk tX0_value_ok 65 20 (pc' := 148) (pl' := [some (.ref 0), some (.int (nI k)), some (.ref 4), some (.int (nI (q + 2))), some (.int (nI (p + 1))), some (.int (nI m)), some (.int (nI 5)), some (.int (nI x.2)), some (.int (sk (((nI (q + 2)) - (nI 2)) &&& (nI 31)).toNatClampNeg)), some (.int (sk (((nI (q + 2)) - (nI 1)) &&& (nI 31)).toNatClampNeg)), none]) (st' := [(.int (nI 6)), (.int (nI 5))]) (W1 := (lsW (nI sz) st bg sk se)) (bs := [px_vb (((nI (q + 2)) - (nI 2)) &&& (nI 31)) 32, px_vb (((nI (q + 2)) - (nI 1)) &&& (nI 31)) 32]) rfl rfl (by (try simp only [q7, q8, q9, q10, q11, q12]); exact (px_all (px_vbN (by omega) (by decide)) (px_all (px_vbN (by omega) (by decide)) rfl))) ?_
                  simp only [q7, q8, q9, q10, q11, q12]
                  refine XG.br eX0_value_148 (P := ¬ (nI 5) = (nI 6)) (r := []) rfl (tgt := 173) (by decide) (fun h148 => ?_) (fun h148 => ?_)
                  · skip
                    have g148 : ¬ 5 = 6 := (fun z => h148 ((nI_eq (a := 5) (b := 6) (by omega) (by omega)).mpr z))
                    refine XG.blk tX0_value_ok 95 2 (pc' := 176) (pl' := [some (.ref 0), some (.int (nI k)), some (.ref 4), some (.int (nI (q + 2))), some (.int (nI (p + 1))), some (.int (nI m)), some (.int (nI 5)), some (.int (nI x.2)), some (.int (sk q)), some (.int (sk (q + 1))), none]) (st' := [(.int (nI 2)), (.int (nI 5))]) (W1 := (lsW (nI sz) st bg sk se)) (bs := []) rfl rfl rfl ?_
                    refine XG.br eX0_value_176 (P := ¬ (nI 5) = (nI 2)) (r := []) rfl (tgt := 189) (by decide) (fun h176 => ?_) (fun h176 => ?_)
                    · skip
                      have g176 : ¬ 5 = 2 := (fun z => h176 ((nI_eq (a := 5) (b := 2) (by omega) (by omega)).mpr z))
                      refine XG.blk tX0_value_ok 103 2 (pc' := 192) (pl' := [some (.ref 0), some (.int (nI k)), some (.ref 4), some (.int (nI (q + 2))), some (.int (nI (p + 1))), some (.int (nI m)), some (.int (nI 5)), some (.int (nI x.2)), some (.int (sk q)), some (.int (sk (q + 1))), none]) (st' := [(.int (nI 3)), (.int (nI 5))]) (W1 := (lsW (nI sz) st bg sk se)) (bs := []) rfl rfl rfl ?_
                      refine XG.br eX0_value_192 (P := ¬ (nI 5) = (nI 3)) (r := []) rfl (tgt := 205) (by decide) (fun h192 => ?_) (fun h192 => ?_)
                      · skip
                        have g192 : ¬ 5 = 3 := (fun z => h192 ((nI_eq (a := 5) (b := 3) (by omega) (by omega)).mpr z))
                        refine XG.blk tX0_value_ok 111 2 (pc' := 208) (pl' := [some (.ref 0), some (.int (nI k)), some (.ref 4), some (.int (nI (q + 2))), some (.int (nI (p + 1))), some (.int (nI m)), some (.int (nI 5)), some (.int (nI x.2)), some (.int (sk q)), some (.int (sk (q + 1))), none]) (st' := [(.int (nI 4)), (.int (nI 5))]) (W1 := (lsW (nI sz) st bg sk se)) (bs := []) rfl rfl rfl ?_
                        refine XG.br eX0_value_208 (P := ¬ (nI 5) = (nI 4)) (r := []) rfl (tgt := 221) (by decide) (fun h208 => ?_) (fun h208 => ?_)
                        · skip
                          have g208 : ¬ 5 = 4 := (fun z => h208 ((nI_eq (a := 5) (b := 4) (by omega) (by omega)).mpr z))
                          refine XG.blk tX0_value_ok 119 1 (pc' := 223) (pl' := [some (.ref 0), some (.int (nI k)), some (.ref 4), some (.int (nI (q + 2))), some (.int (nI (p + 1))), some (.int (nI m)), some (.int (nI 5)), some (.int (nI x.2)), some (.int (sk q)), some (.int (sk (q + 1))), none]) (st' := [(.int (sk (q + 1)))]) (W1 := (lsW (nI sz) st bg sk se)) (bs := []) rfl rfl rfl ?_
                          refine XG.br eX0_value_223 (P := (sk (q + 1)) = 0) (r := []) rfl (tgt := 236) (by decide) (fun h223 => ?_) (fun h223 => ?_)
                          · skip
                            refine XG.blk tX0_value_ok 126 1 (pc' := 237) (pl' := [some (.ref 0), some (.int (nI k)), some (.ref 4), some (.int (nI (q + 2))), some (.int (nI (p + 1))), some (.int (nI m)), some (.int (nI 5)), some (.int (nI x.2)), some (.int (sk q)), some (.int (sk (q + 1))), none]) (st' := [(.int (nI 0))]) (W1 := (lsW (nI sz) st bg sk se)) (bs := []) rfl rfl rfl ?_
                            refine XS.iret eX0_value_237 rfl rfl ?_
                            rw [if_pos ⟨rfl, h223⟩] at hn
                            rw [hn rfl]
                            exact ⟨_, rfl, rfl⟩
                          · skip
                            refine XG.blk tX0_value_ok 121 4 (pc' := 233) (pl' := [some (.ref 0), some (.int (nI k)), some (.ref 4), some (.int (nI (q + 2))), some (.int (nI (p + 1))), some (.int (nI m)), some (.int (nI 5)), some (.int (nI x.2)), some (.int (sk q)), some (.int (sk (q + 1))), some (.int ((sk q) / (sk (q + 1))))]) (st' := []) (W1 := (lsW (nI sz) st bg sk se)) (bs := [!((sk (q + 1)) == 0)]) rfl rfl (px_all ((nzB h223)) rfl) ?_
                            refine XG.goto eX0_value_233 (tgt := 238) (by decide) ?_
                            have q13 : ((nI (q + 2)) + (-1)) = (nI ((q + 2) - 1)) := px_edec rfl (by omega)
                            have q14 : ((nI ((q + 2) - 1)) - (nI 1)) = (nI (((q + 2) - 1) - 1)) := px_esub rfl rfl (by omega)
                            have q15 : ((nI (((q + 2) - 1) - 1)) &&& (nI 31)) = (nI q) := (by rw [msk31 (by omega), show q + 2 - 1 - 1 = q by omega])
                            have q16 : (nI q).toNatClampNeg = q := nI_clamp (by omega)
                            have q17 : ((nI m) + (nI 1)) = (nI (m + 1)) := px_eadd rfl rfl
                            refine XG.blk tX0_value_ok 128 11 (pc' := 257) (pl' := [some (.ref 0), some (.int (nI k)), some (.ref 4), some (.int ((nI (q + 2)) + (-1))), some (.int (nI (p + 1))), some (.int ((nI m) + (nI 1))), some (.int (nI 5)), some (.int (nI x.2)), some (.int (sk q)), some (.int (sk (q + 1))), some (.int ((sk q) / (sk (q + 1))))]) (st' := []) (W1 := (lsW (nI sz) st bg (upd sk ((((nI (q + 2)) + (-1)) - (nI 1)) &&& (nI 31)).toNatClampNeg ((sk q) / (sk (q + 1)))) se)) (bs := [px_vb ((((nI (q + 2)) + (-1)) - (nI 1)) &&& (nI 31)) 32]) rfl rfl (by (try simp only [q13, q14, q15, q16, q17]); exact (px_all (px_vbN (by omega) (by decide)) rfl)) ?_
                            simp only [q13, q14, q15, q16, q17]
                            refine XG.goto eX0_value_257 (tgt := 13) (by decide) ?_
                            refine XG.weak (pl' := [some (.ref 0), some (.int (nI k)), some (.ref 4), some (.int (nI (q + 1))), some (.int (nI (p + 1))), some (.int (nI (m + 1))), none, none, none, none, none]) ⟨rfl, rfl, rfl, (by rw [show q + 2 - 1 = q + 1 by omega]), rfl, rfl, trivial⟩ ?_
                            have eo : opF (nI 5) (sk q) (sk (q + 1)) = sk q / sk (q + 1) := by unfold opF; rw [if_neg (by decide), if_neg (by decide), if_neg (by decide)]
                            have hcn : ¬ (5 = 5 ∧ sk (q + 1) = 0) := (fun z => h223 z.2)
                            rw [if_neg hcn, eo] at hn
                            refine ih (q + 1) (p + 1) (m + 1) _ hs' (by rw [show q + 1 = q + 2 - 1 by omega]; exact h4) (by omega) (by omega) (fun z9 => hn ?_) (fun sk' s' q1 q2 => hk sk' s' ?_ q2)
                            · rw [← z9]; show _ = evC se c (upd sk q _ q :: lstP _ q); rw [pk_us, lstP_up _ _ _ _ (Nat.le_refl _)]
                            · rw [if_neg hcn, eo, ← q1]; show _ = evC se c (upd sk q _ q :: lstP _ q); rw [pk_us, lstP_up _ _ _ _ (Nat.le_refl _)]
                        · exfalso
                          have h208 := Decidable.not_not.mp h208
                          have g208 : 5 = 4 := (nI_eq (a := 5) (b := 4) (by omega) (by omega)).mp h208
                          omega
                      · exfalso
                        have h192 := Decidable.not_not.mp h192
                        have g192 : 5 = 3 := (nI_eq (a := 5) (b := 3) (by omega) (by omega)).mp h192
                        omega
                    · exfalso
                      have h176 := Decidable.not_not.mp h176
                      have g176 : 5 = 2 := (nI_eq (a := 5) (b := 2) (by omega) (by omega)).mp h176
                      omega
                  · exfalso
                    have h148 := Decidable.not_not.mp h148
                    have g148 : 5 = 6 := (nI_eq (a := 5) (b := 6) (by omega) (by omega)).mp h148
                    omega
                · exfalso
                  have h83 := Decidable.not_not.mp h83
                  have g83 : 5 = 1 := (nI_eq (a := 5) (b := 1) (by omega) (by omega)).mp h83
                  omega
            · exfalso
              have h60 := Decidable.not_not.mp h60
              have g60 : 5 = 7 := (nI_eq (a := 5) (b := 7) (by omega) (by omega)).mp h60
              omega
