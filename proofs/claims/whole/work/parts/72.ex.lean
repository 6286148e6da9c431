/-! the reference: codes and what waits -/
def nops (W : List Nat) : Nat := (W.filter (fun x => decide (x ≠ 6))).length
def stk (W : List Nat) (f : Nat → Int32) : Prop := ∀ i x, W.reverse[i]? = some x → f i = nI x
def sgn (x : Nat) : Prop := x = 6 ∨ x = 8 ∨ x = 9 ∨ x = 10 ∨ x = 15
def St (q0 sd : Nat) (W : List Nat) (c : Cde) (v : Nat → Int32) (a : Nat → Nat → Int32) : Prop := v 50 = nI W.length ∧ W.length ≤ 60 ∧ v 46 = nI (q0 + c.length) ∧ 420 * sd ≤ q0 ∧ q0 + c.length + nops W ≤ 420 * sd + 401 ∧ stk W (a 49) ∧ segR a q0 c ∧ ∀ x ∈ W, sgn x
def FrX (q0 sd : Nat) (a a' : Nat → Nat → Int32) : Prop := (∀ k, k ∉ [47, 48, 49] → a' k = a k) ∧ ∀ k, k ∈ [47, 48] → ∀ j, (j < q0 ∨ 420 * sd + 420 ≤ j) → a' k j = a k j
theorem FrX.rf {q0 sd : Nat} {a : Nat → Nat → Int32} : FrX q0 sd a a := ⟨fun _ _ => rfl, fun _ _ _ _ => rfl⟩
theorem FrX.tr {q0 sd : Nat} {a a' a'' : Nat → Nat → Int32} (h : FrX q0 sd a a') (h2 : FrX q0 sd a' a'') : FrX q0 sd a a'' := ⟨fun k hk => (h2.1 k hk).trans (h.1 k hk), fun k hk j hj => (h2.2 k hk j hj).trans (h.2 k hk j hj)⟩
theorem FrX.w {q0 sd : Nat} {a : Nat → Nat → Int32} (f : Nat → Int32) : FrX q0 sd a (va_up a 49 f) := ⟨fun k hk => if_neg (by rintro rfl; exact hk (by decide)), fun k hk j _ => by rw [show va_up a 49 f k = a k from if_neg (by rintro rfl; revert hk; decide)]⟩
theorem FrX.e {q0 sd Q : Nat} {a : Nat → Nat → Int32} (x y : Int32) (h1 : q0 ≤ Q) (h2 : Q < 420 * sd + 420) : FrX q0 sd a (va_up (va_up a 47 (upd (a 47) Q x)) 48 (upd (a 48) Q y)) := by
  refine ⟨fun k hk => ?_, fun k hk j hj => ?_⟩
  · show (if k = 48 then _ else if k = 47 then _ else _) = _
    rw [if_neg (by rintro rfl; exact hk (by decide)), if_neg (by rintro rfl; exact hk (by decide))]
  · simp only [List.mem_cons, List.not_mem_nil, or_false] at hk
    rcases hk with rfl | rfl
    · show upd (a 47) Q x j = a 47 j; exact pk_un (by omega)
    · show upd (a 48) Q y j = a 48 j; exact pk_un (by omega)
theorem stk_cons {x : Nat} {W : List Nat} {f : Nat → Int32} (h : stk (x :: W) f) : f W.length = nI x ∧ stk W f := by
  unfold stk at h
  rw [List.reverse_cons] at h
  refine ⟨h W.length x ?_, fun i y hi => h i y ?_⟩
  · rw [List.getElem?_append_right (by simp), List.length_reverse, Nat.sub_self]; rfl
  · rw [List.getElem?_append_left (List.getElem?_eq_some_iff.mp hi).1]; exact hi
theorem stk_push {x : Nat} {W : List Nat} {f : Nat → Int32} (h : stk W f) : stk (x :: W) (upd f W.length (nI x)) := by
  intro i y hi
  rw [List.reverse_cons] at hi
  by_cases e : i < W.length
  · rw [List.getElem?_append_left (by simpa using e)] at hi
    rw [pk_un (by omega)]; exact h i y hi
  · rw [List.getElem?_append_right (by simp; omega), List.length_reverse] at hi
    have h9 := (List.getElem?_eq_some_iff.mp hi).1
    simp at h9
    have e2 : i = W.length := by omega
    subst e2
    rw [Nat.sub_self] at hi
    cases hi
    exact pk_us
theorem segR_app {a a' : Nat → Nat → Int32} {q k x : Nat} {c : Cde} (h : segR a q c) (h47 : a' 47 = upd (a 47) (q + c.length) (nI k)) (h48 : a' 48 = upd (a 48) (q + c.length) (nI x)) : segR a' q (c ++ [(k, x)]) := by
  intro i y hi
  rw [h47, h48]
  by_cases e : i < c.length
  · rw [List.getElem?_append_left e] at hi
    rw [pk_un (by omega), pk_un (by omega)]; exact h i y hi
  · rw [List.getElem?_append_right (by omega)] at hi
    have h9 := (List.getElem?_eq_some_iff.mp hi).1
    simp at h9
    have e2 : i = c.length := by omega
    subst e2
    rw [Nat.sub_self] at hi
    cases hi
    exact ⟨pk_us, pk_us⟩
def opN (x : Nat) : Nat := if x = 8 then 2 else if x = 9 then 3 else if x = 10 then 4 else 5
def outW (st : Bool) : List Nat → Cde → List Nat × Cde
  | [], c => ([], c)
  | x :: W, c => if x = 6 ∨ (st = true ∧ (x = 8 ∨ x = 9)) then (x :: W, c) else outW st W (c ++ [(opN x, 0)])
theorem St.emit {q0 sd : Nat} {x : Nat} {W : List Nat} {c : Cde} {v : Nat → Int32} {a : Nat → Nat → Int32} (h : St q0 sd (x :: W) c v a) (hx : x ≠ 6) {v' : Nat → Int32} {a' : Nat → Nat → Int32} (h50 : v' 50 = nI W.length) (h46 : v' 46 = nI (q0 + c.length + 1)) (h49 : a' 49 = a 49) (h47 : a' 47 = upd (a 47) (q0 + c.length) (nI (opN x))) (h48 : a' 48 = upd (a 48) (q0 + c.length) (nI 0)) : St q0 sd W (c ++ [(opN x, 0)]) v' a' := by
  obtain ⟨h1, h2, h3, h4, h5, h6, h7, h8⟩ := h
  have hn : nops (x :: W) = nops W + 1 := by unfold nops; rw [List.filter_cons, if_pos (by simpa using hx)]; rfl
  have hl : (c ++ [(opN x, 0)]).length = c.length + 1 := by simp
  have hl2 : (x :: W).length = W.length + 1 := rfl
  refine ⟨h50, by omega, by rw [hl]; exact h46, h4, by rw [hl]; omega, by rw [h49]; exact (stk_cons h6).2, segR_app h7 h47 h48, fun y hy => h8 y (List.mem_cons_of_mem _ hy)⟩
set_option maxHeartbeats 400000 in
theorem con_emit (d : Nat) (v : Nat → Int32) (a : Nat → Nat → Int32) (b : Nat → Nat → Int64) (Q : Nat) (hQ : v 46 = nI Q) (hQ2 : Q < 840) (k x : Int32) : Con mX9_emit d [.ref 0, .int k, .int x] (mW v a b) (fun r W' => W' = mW (va_up v 46 (nI (Q + 1))) (va_up (va_up a 47 (upd (a 47) Q k)) 48 (upd (a 48) Q x)) b ∧ r = none) := by
  refine Con.of (by decide) (Nat.le_of_ble_eq_true rfl) ?_
  have q1 : (v 46) = (nI Q) := hQ
  have q2 : (nI Q).toNatClampNeg = Q := nI_clamp (by omega)
  have q3 : ((nI Q) + (nI 1)) = (nI (Q + 1)) := px_eadd rfl rfl
  refine XG.blk tX9_emit_ok 0 18 (pc' := 30) (pl' := [some (.ref 0), some (.int k), some (.int x)]) (st' := []) (W1 := (mW (va_up v 46 ((v 46) + (nI 1))) (va_up (va_up a 47 (upd (a 47) (v 46).toNatClampNeg k)) 48 (upd (a 48) (v 46).toNatClampNeg x)) b)) (bs := [px_vb (v 46) 840, px_vb (v 46) 840]) rfl rfl (by (try simp only [q1, q2, q3]); exact (px_all (px_vbN (by omega) (by decide)) (px_all (px_vbN (by omega) (by decide)) rfl))) ?_
  simp only [q1, q2, q3]
  refine XS.vret eX9_emit_30 rfl ?_
  exact ⟨rfl, rfl⟩
abbrev outPost (q0 sd : Nat) (W : List Nat) (c : Cde) (st : Bool) (v0 : Nat → Int32) (a0 : Nat → Nat → Int32) (b : Nat → Nat → Int64) : Option Value → px_W → Prop := fun r W' => ∃ v' a', W' = mW v' a' b ∧ chg [46, 50] v0 v' ∧ FrX q0 sd a0 a' ∧ St q0 sd (outW st W c).1 (outW st W c).2 v' a' ∧ r = none
set_option maxHeartbeats 400000 in
theorem comesOut_go (d : Nat) (hd : 1 ≤ d) (b : Nat → Nat → Int64) (q0 sd : Nat) (hsd : sd < 2) (st : Bool) (v0 : Nat → Int32) (a0 : Nat → Nat → Int32) (R : List Nat × Cde) : ∀ (W : List Nat) (c : Cde) (v : Nat → Int32) (a : Nat → Nat → Int32), outW st W c = R → St q0 sd W c v a → chg [46, 50] v0 v → FrX q0 sd a0 a → XG mX9_comesOut (px_gS d (fun r W' => ∃ v' a', W' = mW v' a' b ∧ chg [46, 50] v0 v' ∧ FrX q0 sd a0 a' ∧ St q0 sd R.1 R.2 v' a' ∧ r = none)) 0 0 0 [some (.ref 0), some (.int (nI (if st = true then 1 else 0))), none] [] (mW v a b) := by
  intro W
  induction W with
  | nil =>
    intro c v a hR hS hv ha
    have h50 : v 50 = nI 0 := hS.1
    have q1 : (v 50) = (nI 0) := h50
    refine XG.blk tX9_comesOut_ok 0 2 (pc' := 4) (pl' := [some (.ref 0), some (.int (nI (if st = true then 1 else 0))), none]) (st' := [(.int (v 50))]) (W1 := (mW v a b)) (bs := []) rfl rfl rfl ?_
    simp only [q1]
    refine XG.br eX9_comesOut_4 (P := (nI 0) ≤ 0) (r := []) rfl (tgt := 91) (by decide) (fun h4 => ?_) (fun h4 => ?_)
    · skip
      have g4 : 0 ≤ 0 := (nI_leI (a := 0) (b := 0) (by omega) (by omega)).mp h4
      refine XS.vret eX9_comesOut_91 rfl ?_
      subst hR
      exact ⟨_, _, rfl, hv, ha, hS, rfl⟩
    · exfalso
      have g4 : ¬ 0 ≤ 0 := (fun z => h4 ((nI_leI (a := 0) (b := 0) (by omega) (by omega)).mpr z))
      omega
  | cons x W ih =>
    intro c v a hR hS hv ha
    have h50 : v 50 = nI (W.length + 1) := hS.1
    have hW60 : W.length + 1 ≤ 60 := hS.2.1
    have h46 : v 46 = nI (q0 + c.length) := hS.2.2.1
    have hq := hS.2.2.2.2.1
    have h49 : a 49 W.length = nI x := (stk_cons hS.2.2.2.2.2.1).1
    have hx := hS.2.2.2.2.2.2.2 x List.mem_cons_self
    have e1 : W.length + 1 - 1 = W.length := by omega
    unfold outW at hR
    rcases hx with rfl | rfl | rfl | rfl | rfl
    · skip
      have q1 : (v 50) = (nI (W.length + 1)) := h50
      refine XG.blk tX9_comesOut_ok 0 2 (pc' := 4) (pl' := [some (.ref 0), some (.int (nI (if st = true then 1 else 0))), none]) (st' := [(.int (v 50))]) (W1 := (mW v a b)) (bs := []) rfl rfl rfl ?_
      simp only [q1]
      refine XG.br eX9_comesOut_4 (P := (nI (W.length + 1)) ≤ 0) (r := []) rfl (tgt := 91) (by decide) (fun h4 => ?_) (fun h4 => ?_)
      · exfalso
        have g4 : (W.length + 1) ≤ 0 := (nI_leI (a := (W.length + 1)) (b := 0) (by omega) (by omega)).mp h4
        omega
      · skip
        have g4 : ¬ (W.length + 1) ≤ 0 := (fun z => h4 ((nI_leI (a := (W.length + 1)) (b := 0) (by omega) (by omega)).mpr z))
        have q2 : (v 50) = (nI (W.length + 1)) := h50
        have q3 : ((nI (W.length + 1)) - (nI 1)) = (nI W.length) := px_esub (a := W.length + 1) (b := 1) rfl rfl (by omega)
        have q4 : (nI W.length).toNatClampNeg = W.length := nI_clamp (by omega)
        have q5 : ((a 49) W.length) = (nI 6) := h49
        refine XG.blk tX9_comesOut_ok 3 10 (pc' := 22) (pl' := [some (.ref 0), some (.int (nI (if st = true then 1 else 0))), some (.int ((a 49) ((v 50) - (nI 1)).toNatClampNeg))]) (st' := [(.int (nI 6)), (.int ((a 49) ((v 50) - (nI 1)).toNatClampNeg))]) (W1 := (mW v a b)) (bs := [px_vb ((v 50) - (nI 1)) 64]) rfl rfl (by (try simp only [q2, q3, q4, q5]); exact (px_all (px_vbN (by omega) (by decide)) rfl)) ?_
        simp only [q2, q3, q4, q5]
        refine XG.br eX9_comesOut_22 (P := (nI 6) = (nI 6)) (r := []) rfl (tgt := 41) (by decide) (fun h22 => ?_) (fun h22 => ?_)
        · skip
          have g22 : 6 = 6 := (nI_eq (a := 6) (b := 6) (by omega) (by omega)).mp h22
          refine XS.vret eX9_comesOut_41 rfl ?_
          rw [if_pos (Or.inl rfl)] at hR
          subst hR
          exact ⟨_, _, rfl, hv, ha, hS, rfl⟩
        · exfalso
          have g22 : ¬ 6 = 6 := (fun z => h22 ((nI_eq (a := 6) (b := 6) (by omega) (by omega)).mpr z))
          omega
    · cases st with
      | true =>
        show XG _ _ _ _ 0 [some (.ref 0), some (.int (nI 1)), none] [] _
        have q1 : (v 50) = (nI (W.length + 1)) := h50
        refine XG.blk tX9_comesOut_ok 0 2 (pc' := 4) (pl' := [some (.ref 0), some (.int (nI 1)), none]) (st' := [(.int (v 50))]) (W1 := (mW v a b)) (bs := []) rfl rfl rfl ?_
        simp only [q1]
        refine XG.br eX9_comesOut_4 (P := (nI (W.length + 1)) ≤ 0) (r := []) rfl (tgt := 91) (by decide) (fun h4 => ?_) (fun h4 => ?_)
        · exfalso
          have g4 : (W.length + 1) ≤ 0 := (nI_leI (a := (W.length + 1)) (b := 0) (by omega) (by omega)).mp h4
          omega
        · skip
          have g4 : ¬ (W.length + 1) ≤ 0 := (fun z => h4 ((nI_leI (a := (W.length + 1)) (b := 0) (by omega) (by omega)).mpr z))
          have q2 : (v 50) = (nI (W.length + 1)) := h50
          have q3 : ((nI (W.length + 1)) - (nI 1)) = (nI W.length) := px_esub (a := W.length + 1) (b := 1) rfl rfl (by omega)
          have q4 : (nI W.length).toNatClampNeg = W.length := nI_clamp (by omega)
          have q5 : ((a 49) W.length) = (nI 8) := h49
          refine XG.blk tX9_comesOut_ok 3 10 (pc' := 22) (pl' := [some (.ref 0), some (.int (nI 1)), some (.int ((a 49) ((v 50) - (nI 1)).toNatClampNeg))]) (st' := [(.int (nI 6)), (.int ((a 49) ((v 50) - (nI 1)).toNatClampNeg))]) (W1 := (mW v a b)) (bs := [px_vb ((v 50) - (nI 1)) 64]) rfl rfl (by (try simp only [q2, q3, q4, q5]); exact (px_all (px_vbN (by omega) (by decide)) rfl)) ?_
          simp only [q2, q3, q4, q5]
          refine XG.br eX9_comesOut_22 (P := (nI 8) = (nI 6)) (r := []) rfl (tgt := 41) (by decide) (fun h22 => ?_) (fun h22 => ?_)
          · exfalso
            have g22 : 8 = 6 := (nI_eq (a := 8) (b := 6) (by omega) (by omega)).mp h22
            omega
          · skip
            have g22 : ¬ 8 = 6 := (fun z => h22 ((nI_eq (a := 8) (b := 6) (by omega) (by omega)).mpr z))
            refine XG.blk tX9_comesOut_ok 14 1 (pc' := 26) (pl' := [some (.ref 0), some (.int (nI 1)), some (.int (nI 8))]) (st' := [(.int (nI 1))]) (W1 := (mW v a b)) (bs := []) rfl rfl rfl ?_
            refine XG.br eX9_comesOut_26 (P := (nI 1) = 0) (r := []) rfl (tgt := 42) (by decide) (fun h26 => ?_) (fun h26 => ?_)
            · exfalso
              have g26 : 1 = 0 := (nI_eq (a := 1) (b := 0) (by omega) (by omega)).mp h26
              omega
            · skip
              have g26 : ¬ 1 = 0 := (fun z => h26 ((nI_eq (a := 1) (b := 0) (by omega) (by omega)).mpr z))
              refine XG.blk tX9_comesOut_ok 16 2 (pc' := 32) (pl' := [some (.ref 0), some (.int (nI 1)), some (.int (nI 8))]) (st' := [(.int (nI 8)), (.int (nI 8))]) (W1 := (mW v a b)) (bs := []) rfl rfl rfl ?_
              refine XG.br eX9_comesOut_32 (P := (nI 8) = (nI 8)) (r := []) rfl (tgt := 41) (by decide) (fun h32 => ?_) (fun h32 => ?_)
              · skip
                have g32 : 8 = 8 := (nI_eq (a := 8) (b := 8) (by omega) (by omega)).mp h32
                refine XS.vret eX9_comesOut_41 rfl ?_
                rw [if_pos (by decide)] at hR
                subst hR
                exact ⟨_, _, rfl, hv, ha, hS, rfl⟩
              · exfalso
                have g32 : ¬ 8 = 8 := (fun z => h32 ((nI_eq (a := 8) (b := 8) (by omega) (by omega)).mpr z))
                omega
      | false =>
        show XG _ _ _ _ 0 [some (.ref 0), some (.int (nI 0)), none] [] _
        have q1 : (v 50) = (nI (W.length + 1)) := h50
        refine XG.blk tX9_comesOut_ok 0 2 (pc' := 4) (pl' := [some (.ref 0), some (.int (nI 0)), none]) (st' := [(.int (v 50))]) (W1 := (mW v a b)) (bs := []) rfl rfl rfl ?_
        simp only [q1]
        refine XG.br eX9_comesOut_4 (P := (nI (W.length + 1)) ≤ 0) (r := []) rfl (tgt := 91) (by decide) (fun h4 => ?_) (fun h4 => ?_)
        · exfalso
          have g4 : (W.length + 1) ≤ 0 := (nI_leI (a := (W.length + 1)) (b := 0) (by omega) (by omega)).mp h4
          omega
        · skip
          have g4 : ¬ (W.length + 1) ≤ 0 := (fun z => h4 ((nI_leI (a := (W.length + 1)) (b := 0) (by omega) (by omega)).mpr z))
          have q2 : (v 50) = (nI (W.length + 1)) := h50
          have q3 : ((nI (W.length + 1)) - (nI 1)) = (nI W.length) := px_esub (a := W.length + 1) (b := 1) rfl rfl (by omega)
          have q4 : (nI W.length).toNatClampNeg = W.length := nI_clamp (by omega)
          have q5 : ((a 49) W.length) = (nI 8) := h49
          refine XG.blk tX9_comesOut_ok 3 10 (pc' := 22) (pl' := [some (.ref 0), some (.int (nI 0)), some (.int ((a 49) ((v 50) - (nI 1)).toNatClampNeg))]) (st' := [(.int (nI 6)), (.int ((a 49) ((v 50) - (nI 1)).toNatClampNeg))]) (W1 := (mW v a b)) (bs := [px_vb ((v 50) - (nI 1)) 64]) rfl rfl (by (try simp only [q2, q3, q4, q5]); exact (px_all (px_vbN (by omega) (by decide)) rfl)) ?_
          simp only [q2, q3, q4, q5]
          refine XG.br eX9_comesOut_22 (P := (nI 8) = (nI 6)) (r := []) rfl (tgt := 41) (by decide) (fun h22 => ?_) (fun h22 => ?_)
          · exfalso
            have g22 : 8 = 6 := (nI_eq (a := 8) (b := 6) (by omega) (by omega)).mp h22
            omega
          · skip
            have g22 : ¬ 8 = 6 := (fun z => h22 ((nI_eq (a := 8) (b := 6) (by omega) (by omega)).mpr z))
            refine XG.blk tX9_comesOut_ok 14 1 (pc' := 26) (pl' := [some (.ref 0), some (.int (nI 0)), some (.int (nI 8))]) (st' := [(.int (nI 0))]) (W1 := (mW v a b)) (bs := []) rfl rfl rfl ?_
            refine XG.br eX9_comesOut_26 (P := (nI 0) = 0) (r := []) rfl (tgt := 42) (by decide) (fun h26 => ?_) (fun h26 => ?_)
            · skip
              have g26 : 0 = 0 := (nI_eq (a := 0) (b := 0) (by omega) (by omega)).mp h26
              have q6 : (v 50) = (nI (W.length + 1)) := h50
              have q7 : ((nI (W.length + 1)) - (nI 1)) = (nI W.length) := px_esub (a := W.length + 1) (b := 1) rfl rfl (by omega)
              refine XG.blk tX9_comesOut_ok 23 9 (pc' := 56) (pl' := [some (.ref 0), some (.int (nI 0)), some (.int (nI 8))]) (st' := [(.int (nI 8)), (.int (nI 8)), (.ref 0)]) (W1 := (mW (va_up v 50 ((v 50) - (nI 1))) a b)) (bs := []) rfl rfl rfl ?_
              simp only [q6, q7]
              refine XG.br eX9_comesOut_56 (P := ¬ (nI 8) = (nI 8)) (r := [(.ref 0)]) rfl (tgt := 63) (by decide) (fun h56 => ?_) (fun h56 => ?_)
              · exfalso
                have g56 : ¬ 8 = 8 := (fun z => h56 ((nI_eq (a := 8) (b := 8) (by omega) (by omega)).mpr z))
                omega
              · skip
                have h56 := Decidable.not_not.mp h56
                have g56 : 8 = 8 := (nI_eq (a := 8) (b := 8) (by omega) (by omega)).mp h56
                refine XG.blk tX9_comesOut_ok 33 1 (pc' := 60) (pl' := [some (.ref 0), some (.int (nI 0)), some (.int (nI 8))]) (st' := [(.int (nI 2)), (.ref 0)]) (W1 := (mW (va_up v 50 (nI W.length)) a b)) (bs := []) rfl rfl rfl ?_
                refine XG.goto eX9_comesOut_60 (tgt := 84) (by decide) ?_
                refine XG.blk tX9_comesOut_ok 46 1 (pc' := 85) (pl' := [some (.ref 0), some (.int (nI 0)), some (.int (nI 8))]) (st' := [(.int (nI 0)), (.int (nI 2)), (.ref 0)]) (W1 := (mW (va_up v 50 (nI W.length)) a b)) (bs := []) rfl rfl rfl ?_
                refine XG.callV0 eX9_comesOut_85 kl_X9_317 (con_emit (d - 1) (va_up v 50 (nI W.length)) a b (q0 + c.length) h46 (by omega) (nI 2) (nI 0)) (px_fitS (by omega)) rfl rfl rfl (Nat.le_of_ble_eq_true rfl) (fun r9 W9 hp9 hl9 => ?_)
                obtain ⟨rfl, rfl⟩ := hp9
                refine XG.goto eX9_comesOut_88 (tgt := 0) (by decide) ?_
                rw [if_neg (by decide)] at hR
                refine XG.weak (pl' := [some (.ref 0), some (.int (nI 0)), none]) ⟨rfl, rfl, trivial⟩ ?_
                exact ih _ _ _ hR (hS.emit (by decide) rfl rfl rfl rfl rfl) (hv.tr ((chg.up (by decide)).tr (chg.up (by decide)))) (ha.tr (FrX.e _ _ (by omega) (by omega)))
            · exfalso
              have g26 : ¬ 0 = 0 := (fun z => h26 ((nI_eq (a := 0) (b := 0) (by omega) (by omega)).mpr z))
              omega
    · cases st with
      | true =>
        show XG _ _ _ _ 0 [some (.ref 0), some (.int (nI 1)), none] [] _
        have q1 : (v 50) = (nI (W.length + 1)) := h50
        refine XG.blk tX9_comesOut_ok 0 2 (pc' := 4) (pl' := [some (.ref 0), some (.int (nI 1)), none]) (st' := [(.int (v 50))]) (W1 := (mW v a b)) (bs := []) rfl rfl rfl ?_
        simp only [q1]
        refine XG.br eX9_comesOut_4 (P := (nI (W.length + 1)) ≤ 0) (r := []) rfl (tgt := 91) (by decide) (fun h4 => ?_) (fun h4 => ?_)
        · exfalso
          have g4 : (W.length + 1) ≤ 0 := (nI_leI (a := (W.length + 1)) (b := 0) (by omega) (by omega)).mp h4
          omega
        · skip
          have g4 : ¬ (W.length + 1) ≤ 0 := (fun z => h4 ((nI_leI (a := (W.length + 1)) (b := 0) (by omega) (by omega)).mpr z))
          have q2 : (v 50) = (nI (W.length + 1)) := h50
          have q3 : ((nI (W.length + 1)) - (nI 1)) = (nI W.length) := px_esub (a := W.length + 1) (b := 1) rfl rfl (by omega)
          have q4 : (nI W.length).toNatClampNeg = W.length := nI_clamp (by omega)
          have q5 : ((a 49) W.length) = (nI 9) := h49
          refine XG.blk tX9_comesOut_ok 3 10 (pc' := 22) (pl' := [some (.ref 0), some (.int (nI 1)), some (.int ((a 49) ((v 50) - (nI 1)).toNatClampNeg))]) (st' := [(.int (nI 6)), (.int ((a 49) ((v 50) - (nI 1)).toNatClampNeg))]) (W1 := (mW v a b)) (bs := [px_vb ((v 50) - (nI 1)) 64]) rfl rfl (by (try simp only [q2, q3, q4, q5]); exact (px_all (px_vbN (by omega) (by decide)) rfl)) ?_
          simp only [q2, q3, q4, q5]
          refine XG.br eX9_comesOut_22 (P := (nI 9) = (nI 6)) (r := []) rfl (tgt := 41) (by decide) (fun h22 => ?_) (fun h22 => ?_)
          · exfalso
            have g22 : 9 = 6 := (nI_eq (a := 9) (b := 6) (by omega) (by omega)).mp h22
            omega
          · skip
            have g22 : ¬ 9 = 6 := (fun z => h22 ((nI_eq (a := 9) (b := 6) (by omega) (by omega)).mpr z))
            refine XG.blk tX9_comesOut_ok 14 1 (pc' := 26) (pl' := [some (.ref 0), some (.int (nI 1)), some (.int (nI 9))]) (st' := [(.int (nI 1))]) (W1 := (mW v a b)) (bs := []) rfl rfl rfl ?_
            refine XG.br eX9_comesOut_26 (P := (nI 1) = 0) (r := []) rfl (tgt := 42) (by decide) (fun h26 => ?_) (fun h26 => ?_)
            · exfalso
              have g26 : 1 = 0 := (nI_eq (a := 1) (b := 0) (by omega) (by omega)).mp h26
              omega
            · skip
              have g26 : ¬ 1 = 0 := (fun z => h26 ((nI_eq (a := 1) (b := 0) (by omega) (by omega)).mpr z))
              refine XG.blk tX9_comesOut_ok 16 2 (pc' := 32) (pl' := [some (.ref 0), some (.int (nI 1)), some (.int (nI 9))]) (st' := [(.int (nI 8)), (.int (nI 9))]) (W1 := (mW v a b)) (bs := []) rfl rfl rfl ?_
              refine XG.br eX9_comesOut_32 (P := (nI 9) = (nI 8)) (r := []) rfl (tgt := 41) (by decide) (fun h32 => ?_) (fun h32 => ?_)
              · exfalso
                have g32 : 9 = 8 := (nI_eq (a := 9) (b := 8) (by omega) (by omega)).mp h32
                omega
              · skip
                have g32 : ¬ 9 = 8 := (fun z => h32 ((nI_eq (a := 9) (b := 8) (by omega) (by omega)).mpr z))
                refine XG.blk tX9_comesOut_ok 19 2 (pc' := 38) (pl' := [some (.ref 0), some (.int (nI 1)), some (.int (nI 9))]) (st' := [(.int (nI 9)), (.int (nI 9))]) (W1 := (mW v a b)) (bs := []) rfl rfl rfl ?_
                refine XG.br eX9_comesOut_38 (P := ¬ (nI 9) = (nI 9)) (r := []) rfl (tgt := 42) (by decide) (fun h38 => ?_) (fun h38 => ?_)
                · exfalso
                  have g38 : ¬ 9 = 9 := (fun z => h38 ((nI_eq (a := 9) (b := 9) (by omega) (by omega)).mpr z))
                  omega
                · skip
                  have h38 := Decidable.not_not.mp h38
                  have g38 : 9 = 9 := (nI_eq (a := 9) (b := 9) (by omega) (by omega)).mp h38
                  refine XS.vret eX9_comesOut_41 rfl ?_
                  rw [if_pos (by decide)] at hR
                  subst hR
                  exact ⟨_, _, rfl, hv, ha, hS, rfl⟩
      | false =>
        show XG _ _ _ _ 0 [some (.ref 0), some (.int (nI 0)), none] [] _
        have q1 : (v 50) = (nI (W.length + 1)) := h50
        refine XG.blk tX9_comesOut_ok 0 2 (pc' := 4) (pl' := [some (.ref 0), some (.int (nI 0)), none]) (st' := [(.int (v 50))]) (W1 := (mW v a b)) (bs := []) rfl rfl rfl ?_
        simp only [q1]
        refine XG.br eX9_comesOut_4 (P := (nI (W.length + 1)) ≤ 0) (r := []) rfl (tgt := 91) (by decide) (fun h4 => ?_) (fun h4 => ?_)
        · exfalso
          have g4 : (W.length + 1) ≤ 0 := (nI_leI (a := (W.length + 1)) (b := 0) (by omega) (by omega)).mp h4
          omega
        · skip
          have g4 : ¬ (W.length + 1) ≤ 0 := (fun z => h4 ((nI_leI (a := (W.length + 1)) (b := 0) (by omega) (by omega)).mpr z))
          have q2 : (v 50) = (nI (W.length + 1)) := h50
          have q3 : ((nI (W.length + 1)) - (nI 1)) = (nI W.length) := px_esub (a := W.length + 1) (b := 1) rfl rfl (by omega)
          have q4 : (nI W.length).toNatClampNeg = W.length := nI_clamp (by omega)
          have q5 : ((a 49) W.length) = (nI 9) := h49
          refine XG.blk tX9_comesOut_ok 3 10 (pc' := 22) (pl' := [some (.ref 0), some (.int (nI 0)), some (.int ((a 49) ((v 50) - (nI 1)).toNatClampNeg))]) (st' := [(.int (nI 6)), (.int ((a 49) ((v 50) - (nI 1)).toNatClampNeg))]) (W1 := (mW v a b)) (bs := [px_vb ((v 50) - (nI 1)) 64]) rfl rfl (by (try simp only [q2, q3, q4, q5]); exact (px_all (px_vbN (by omega) (by decide)) rfl)) ?_
          simp only [q2, q3, q4, q5]
          refine XG.br eX9_comesOut_22 (P := (nI 9) = (nI 6)) (r := []) rfl (tgt := 41) (by decide) (fun h22 => ?_) (fun h22 => ?_)
          · exfalso
            have g22 : 9 = 6 := (nI_eq (a := 9) (b := 6) (by omega) (by omega)).mp h22
            omega
          · skip
            have g22 : ¬ 9 = 6 := (fun z => h22 ((nI_eq (a := 9) (b := 6) (by omega) (by omega)).mpr z))
            refine XG.blk tX9_comesOut_ok 14 1 (pc' := 26) (pl' := [some (.ref 0), some (.int (nI 0)), some (.int (nI 9))]) (st' := [(.int (nI 0))]) (W1 := (mW v a b)) (bs := []) rfl rfl rfl ?_
            refine XG.br eX9_comesOut_26 (P := (nI 0) = 0) (r := []) rfl (tgt := 42) (by decide) (fun h26 => ?_) (fun h26 => ?_)
            · skip
              have g26 : 0 = 0 := (nI_eq (a := 0) (b := 0) (by omega) (by omega)).mp h26
              have q6 : (v 50) = (nI (W.length + 1)) := h50
              have q7 : ((nI (W.length + 1)) - (nI 1)) = (nI W.length) := px_esub (a := W.length + 1) (b := 1) rfl rfl (by omega)
              refine XG.blk tX9_comesOut_ok 23 9 (pc' := 56) (pl' := [some (.ref 0), some (.int (nI 0)), some (.int (nI 9))]) (st' := [(.int (nI 8)), (.int (nI 9)), (.ref 0)]) (W1 := (mW (va_up v 50 ((v 50) - (nI 1))) a b)) (bs := []) rfl rfl rfl ?_
              simp only [q6, q7]
              refine XG.br eX9_comesOut_56 (P := ¬ (nI 9) = (nI 8)) (r := [(.ref 0)]) rfl (tgt := 63) (by decide) (fun h56 => ?_) (fun h56 => ?_)
              · skip
                have g56 : ¬ 9 = 8 := (fun z => h56 ((nI_eq (a := 9) (b := 8) (by omega) (by omega)).mpr z))
                refine XG.blk tX9_comesOut_ok 35 2 (pc' := 66) (pl' := [some (.ref 0), some (.int (nI 0)), some (.int (nI 9))]) (st' := [(.int (nI 9)), (.int (nI 9)), (.ref 0)]) (W1 := (mW (va_up v 50 (nI W.length)) a b)) (bs := []) rfl rfl rfl ?_
                refine XG.br eX9_comesOut_66 (P := ¬ (nI 9) = (nI 9)) (r := [(.ref 0)]) rfl (tgt := 73) (by decide) (fun h66 => ?_) (fun h66 => ?_)
                · exfalso
                  have g66 : ¬ 9 = 9 := (fun z => h66 ((nI_eq (a := 9) (b := 9) (by omega) (by omega)).mpr z))
                  omega
                · skip
                  have h66 := Decidable.not_not.mp h66
                  have g66 : 9 = 9 := (nI_eq (a := 9) (b := 9) (by omega) (by omega)).mp h66
                  refine XG.blk tX9_comesOut_ok 38 1 (pc' := 70) (pl' := [some (.ref 0), some (.int (nI 0)), some (.int (nI 9))]) (st' := [(.int (nI 3)), (.ref 0)]) (W1 := (mW (va_up v 50 (nI W.length)) a b)) (bs := []) rfl rfl rfl ?_
                  refine XG.goto eX9_comesOut_70 (tgt := 84) (by decide) ?_
                  refine XG.blk tX9_comesOut_ok 46 1 (pc' := 85) (pl' := [some (.ref 0), some (.int (nI 0)), some (.int (nI 9))]) (st' := [(.int (nI 0)), (.int (nI 3)), (.ref 0)]) (W1 := (mW (va_up v 50 (nI W.length)) a b)) (bs := []) rfl rfl rfl ?_
                  refine XG.callV0 eX9_comesOut_85 kl_X9_317 (con_emit (d - 1) (va_up v 50 (nI W.length)) a b (q0 + c.length) h46 (by omega) (nI 3) (nI 0)) (px_fitS (by omega)) rfl rfl rfl (Nat.le_of_ble_eq_true rfl) (fun r9 W9 hp9 hl9 => ?_)
                  obtain ⟨rfl, rfl⟩ := hp9
                  refine XG.goto eX9_comesOut_88 (tgt := 0) (by decide) ?_
                  rw [if_neg (by decide)] at hR
                  refine XG.weak (pl' := [some (.ref 0), some (.int (nI 0)), none]) ⟨rfl, rfl, trivial⟩ ?_
                  exact ih _ _ _ hR (hS.emit (by decide) rfl rfl rfl rfl rfl) (hv.tr ((chg.up (by decide)).tr (chg.up (by decide)))) (ha.tr (FrX.e _ _ (by omega) (by omega)))
              · exfalso
                have h56 := Decidable.not_not.mp h56
                have g56 : 9 = 8 := (nI_eq (a := 9) (b := 8) (by omega) (by omega)).mp h56
                omega
            · exfalso
              have g26 : ¬ 0 = 0 := (fun z => h26 ((nI_eq (a := 0) (b := 0) (by omega) (by omega)).mpr z))
              omega
    · cases st with
      | true =>
        show XG _ _ _ _ 0 [some (.ref 0), some (.int (nI 1)), none] [] _
        have q1 : (v 50) = (nI (W.length + 1)) := h50
        refine XG.blk tX9_comesOut_ok 0 2 (pc' := 4) (pl' := [some (.ref 0), some (.int (nI 1)), none]) (st' := [(.int (v 50))]) (W1 := (mW v a b)) (bs := []) rfl rfl rfl ?_
        simp only [q1]
        refine XG.br eX9_comesOut_4 (P := (nI (W.length + 1)) ≤ 0) (r := []) rfl (tgt := 91) (by decide) (fun h4 => ?_) (fun h4 => ?_)
        · exfalso
          have g4 : (W.length + 1) ≤ 0 := (nI_leI (a := (W.length + 1)) (b := 0) (by omega) (by omega)).mp h4
          omega
        · skip
          have g4 : ¬ (W.length + 1) ≤ 0 := (fun z => h4 ((nI_leI (a := (W.length + 1)) (b := 0) (by omega) (by omega)).mpr z))
          have q2 : (v 50) = (nI (W.length + 1)) := h50
          have q3 : ((nI (W.length + 1)) - (nI 1)) = (nI W.length) := px_esub (a := W.length + 1) (b := 1) rfl rfl (by omega)
          have q4 : (nI W.length).toNatClampNeg = W.length := nI_clamp (by omega)
          have q5 : ((a 49) W.length) = (nI 10) := h49
          refine XG.blk tX9_comesOut_ok 3 10 (pc' := 22) (pl' := [some (.ref 0), some (.int (nI 1)), some (.int ((a 49) ((v 50) - (nI 1)).toNatClampNeg))]) (st' := [(.int (nI 6)), (.int ((a 49) ((v 50) - (nI 1)).toNatClampNeg))]) (W1 := (mW v a b)) (bs := [px_vb ((v 50) - (nI 1)) 64]) rfl rfl (by (try simp only [q2, q3, q4, q5]); exact (px_all (px_vbN (by omega) (by decide)) rfl)) ?_
          simp only [q2, q3, q4, q5]
          refine XG.br eX9_comesOut_22 (P := (nI 10) = (nI 6)) (r := []) rfl (tgt := 41) (by decide) (fun h22 => ?_) (fun h22 => ?_)
          · exfalso
            have g22 : 10 = 6 := (nI_eq (a := 10) (b := 6) (by omega) (by omega)).mp h22
            omega
          · skip
            have g22 : ¬ 10 = 6 := (fun z => h22 ((nI_eq (a := 10) (b := 6) (by omega) (by omega)).mpr z))
            refine XG.blk tX9_comesOut_ok 14 1 (pc' := 26) (pl' := [some (.ref 0), some (.int (nI 1)), some (.int (nI 10))]) (st' := [(.int (nI 1))]) (W1 := (mW v a b)) (bs := []) rfl rfl rfl ?_
            refine XG.br eX9_comesOut_26 (P := (nI 1) = 0) (r := []) rfl (tgt := 42) (by decide) (fun h26 => ?_) (fun h26 => ?_)
            · exfalso
              have g26 : 1 = 0 := (nI_eq (a := 1) (b := 0) (by omega) (by omega)).mp h26
              omega
            · skip
              have g26 : ¬ 1 = 0 := (fun z => h26 ((nI_eq (a := 1) (b := 0) (by omega) (by omega)).mpr z))
              refine XG.blk tX9_comesOut_ok 16 2 (pc' := 32) (pl' := [some (.ref 0), some (.int (nI 1)), some (.int (nI 10))]) (st' := [(.int (nI 8)), (.int (nI 10))]) (W1 := (mW v a b)) (bs := []) rfl rfl rfl ?_
              refine XG.br eX9_comesOut_32 (P := (nI 10) = (nI 8)) (r := []) rfl (tgt := 41) (by decide) (fun h32 => ?_) (fun h32 => ?_)
              · exfalso
                have g32 : 10 = 8 := (nI_eq (a := 10) (b := 8) (by omega) (by omega)).mp h32
                omega
              · skip
                have g32 : ¬ 10 = 8 := (fun z => h32 ((nI_eq (a := 10) (b := 8) (by omega) (by omega)).mpr z))
                refine XG.blk tX9_comesOut_ok 19 2 (pc' := 38) (pl' := [some (.ref 0), some (.int (nI 1)), some (.int (nI 10))]) (st' := [(.int (nI 9)), (.int (nI 10))]) (W1 := (mW v a b)) (bs := []) rfl rfl rfl ?_
                refine XG.br eX9_comesOut_38 (P := ¬ (nI 10) = (nI 9)) (r := []) rfl (tgt := 42) (by decide) (fun h38 => ?_) (fun h38 => ?_)
                · skip
                  have g38 : ¬ 10 = 9 := (fun z => h38 ((nI_eq (a := 10) (b := 9) (by omega) (by omega)).mpr z))
                  have q6 : (v 50) = (nI (W.length + 1)) := h50
                  have q7 : ((nI (W.length + 1)) - (nI 1)) = (nI W.length) := px_esub (a := W.length + 1) (b := 1) rfl rfl (by omega)
                  refine XG.blk tX9_comesOut_ok 23 9 (pc' := 56) (pl' := [some (.ref 0), some (.int (nI 1)), some (.int (nI 10))]) (st' := [(.int (nI 8)), (.int (nI 10)), (.ref 0)]) (W1 := (mW (va_up v 50 ((v 50) - (nI 1))) a b)) (bs := []) rfl rfl rfl ?_
                  simp only [q6, q7]
                  refine XG.br eX9_comesOut_56 (P := ¬ (nI 10) = (nI 8)) (r := [(.ref 0)]) rfl (tgt := 63) (by decide) (fun h56 => ?_) (fun h56 => ?_)
                  · skip
                    have g56 : ¬ 10 = 8 := (fun z => h56 ((nI_eq (a := 10) (b := 8) (by omega) (by omega)).mpr z))
                    refine XG.blk tX9_comesOut_ok 35 2 (pc' := 66) (pl' := [some (.ref 0), some (.int (nI 1)), some (.int (nI 10))]) (st' := [(.int (nI 9)), (.int (nI 10)), (.ref 0)]) (W1 := (mW (va_up v 50 (nI W.length)) a b)) (bs := []) rfl rfl rfl ?_
                    refine XG.br eX9_comesOut_66 (P := ¬ (nI 10) = (nI 9)) (r := [(.ref 0)]) rfl (tgt := 73) (by decide) (fun h66 => ?_) (fun h66 => ?_)
                    · skip
                      have g66 : ¬ 10 = 9 := (fun z => h66 ((nI_eq (a := 10) (b := 9) (by omega) (by omega)).mpr z))
                      refine XG.blk tX9_comesOut_ok 40 2 (pc' := 76) (pl' := [some (.ref 0), some (.int (nI 1)), some (.int (nI 10))]) (st' := [(.int (nI 10)), (.int (nI 10)), (.ref 0)]) (W1 := (mW (va_up v 50 (nI W.length)) a b)) (bs := []) rfl rfl rfl ?_
                      refine XG.br eX9_comesOut_76 (P := ¬ (nI 10) = (nI 10)) (r := [(.ref 0)]) rfl (tgt := 83) (by decide) (fun h76 => ?_) (fun h76 => ?_)
                      · exfalso
                        have g76 : ¬ 10 = 10 := (fun z => h76 ((nI_eq (a := 10) (b := 10) (by omega) (by omega)).mpr z))
                        omega
                      · skip
                        have h76 := Decidable.not_not.mp h76
                        have g76 : 10 = 10 := (nI_eq (a := 10) (b := 10) (by omega) (by omega)).mp h76
                        refine XG.blk tX9_comesOut_ok 43 1 (pc' := 80) (pl' := [some (.ref 0), some (.int (nI 1)), some (.int (nI 10))]) (st' := [(.int (nI 4)), (.ref 0)]) (W1 := (mW (va_up v 50 (nI W.length)) a b)) (bs := []) rfl rfl rfl ?_
                        refine XG.goto eX9_comesOut_80 (tgt := 84) (by decide) ?_
                        refine XG.blk tX9_comesOut_ok 46 1 (pc' := 85) (pl' := [some (.ref 0), some (.int (nI 1)), some (.int (nI 10))]) (st' := [(.int (nI 0)), (.int (nI 4)), (.ref 0)]) (W1 := (mW (va_up v 50 (nI W.length)) a b)) (bs := []) rfl rfl rfl ?_
                        refine XG.callV0 eX9_comesOut_85 kl_X9_317 (con_emit (d - 1) (va_up v 50 (nI W.length)) a b (q0 + c.length) h46 (by omega) (nI 4) (nI 0)) (px_fitS (by omega)) rfl rfl rfl (Nat.le_of_ble_eq_true rfl) (fun r9 W9 hp9 hl9 => ?_)
                        obtain ⟨rfl, rfl⟩ := hp9
                        refine XG.goto eX9_comesOut_88 (tgt := 0) (by decide) ?_
                        rw [if_neg (by decide)] at hR
                        refine XG.weak (pl' := [some (.ref 0), some (.int (nI 1)), none]) ⟨rfl, rfl, trivial⟩ ?_
                        exact ih _ _ _ hR (hS.emit (by decide) rfl rfl rfl rfl rfl) (hv.tr ((chg.up (by decide)).tr (chg.up (by decide)))) (ha.tr (FrX.e _ _ (by omega) (by omega)))
                    · exfalso
                      have h66 := Decidable.not_not.mp h66
                      have g66 : 10 = 9 := (nI_eq (a := 10) (b := 9) (by omega) (by omega)).mp h66
                      omega
                  · exfalso
                    have h56 := Decidable.not_not.mp h56
                    have g56 : 10 = 8 := (nI_eq (a := 10) (b := 8) (by omega) (by omega)).mp h56
                    omega
                · exfalso
                  have h38 := Decidable.not_not.mp h38
                  have g38 : 10 = 9 := (nI_eq (a := 10) (b := 9) (by omega) (by omega)).mp h38
                  omega
      | false =>
        show XG _ _ _ _ 0 [some (.ref 0), some (.int (nI 0)), none] [] _
        have q1 : (v 50) = (nI (W.length + 1)) := h50
        refine XG.blk tX9_comesOut_ok 0 2 (pc' := 4) (pl' := [some (.ref 0), some (.int (nI 0)), none]) (st' := [(.int (v 50))]) (W1 := (mW v a b)) (bs := []) rfl rfl rfl ?_
        simp only [q1]
        refine XG.br eX9_comesOut_4 (P := (nI (W.length + 1)) ≤ 0) (r := []) rfl (tgt := 91) (by decide) (fun h4 => ?_) (fun h4 => ?_)
        · exfalso
          have g4 : (W.length + 1) ≤ 0 := (nI_leI (a := (W.length + 1)) (b := 0) (by omega) (by omega)).mp h4
          omega
        · skip
          have g4 : ¬ (W.length + 1) ≤ 0 := (fun z => h4 ((nI_leI (a := (W.length + 1)) (b := 0) (by omega) (by omega)).mpr z))
          have q2 : (v 50) = (nI (W.length + 1)) := h50
          have q3 : ((nI (W.length + 1)) - (nI 1)) = (nI W.length) := px_esub (a := W.length + 1) (b := 1) rfl rfl (by omega)
          have q4 : (nI W.length).toNatClampNeg = W.length := nI_clamp (by omega)
          have q5 : ((a 49) W.length) = (nI 10) := h49
          refine XG.blk tX9_comesOut_ok 3 10 (pc' := 22) (pl' := [some (.ref 0), some (.int (nI 0)), some (.int ((a 49) ((v 50) - (nI 1)).toNatClampNeg))]) (st' := [(.int (nI 6)), (.int ((a 49) ((v 50) - (nI 1)).toNatClampNeg))]) (W1 := (mW v a b)) (bs := [px_vb ((v 50) - (nI 1)) 64]) rfl rfl (by (try simp only [q2, q3, q4, q5]); exact (px_all (px_vbN (by omega) (by decide)) rfl)) ?_
          simp only [q2, q3, q4, q5]
          refine XG.br eX9_comesOut_22 (P := (nI 10) = (nI 6)) (r := []) rfl (tgt := 41) (by decide) (fun h22 => ?_) (fun h22 => ?_)
          · exfalso
            have g22 : 10 = 6 := (nI_eq (a := 10) (b := 6) (by omega) (by omega)).mp h22
            omega
          · skip
            have g22 : ¬ 10 = 6 := (fun z => h22 ((nI_eq (a := 10) (b := 6) (by omega) (by omega)).mpr z))
            refine XG.blk tX9_comesOut_ok 14 1 (pc' := 26) (pl' := [some (.ref 0), some (.int (nI 0)), some (.int (nI 10))]) (st' := [(.int (nI 0))]) (W1 := (mW v a b)) (bs := []) rfl rfl rfl ?_
            refine XG.br eX9_comesOut_26 (P := (nI 0) = 0) (r := []) rfl (tgt := 42) (by decide) (fun h26 => ?_) (fun h26 => ?_)
            · skip
              have g26 : 0 = 0 := (nI_eq (a := 0) (b := 0) (by omega) (by omega)).mp h26
              have q6 : (v 50) = (nI (W.length + 1)) := h50
              have q7 : ((nI (W.length + 1)) - (nI 1)) = (nI W.length) := px_esub (a := W.length + 1) (b := 1) rfl rfl (by omega)
              refine XG.blk tX9_comesOut_ok 23 9 (pc' := 56) (pl' := [some (.ref 0), some (.int (nI 0)), some (.int (nI 10))]) (st' := [(.int (nI 8)), (.int (nI 10)), (.ref 0)]) (W1 := (mW (va_up v 50 ((v 50) - (nI 1))) a b)) (bs := []) rfl rfl rfl ?_
              simp only [q6, q7]
              refine XG.br eX9_comesOut_56 (P := ¬ (nI 10) = (nI 8)) (r := [(.ref 0)]) rfl (tgt := 63) (by decide) (fun h56 => ?_) (fun h56 => ?_)
              · skip
                have g56 : ¬ 10 = 8 := (fun z => h56 ((nI_eq (a := 10) (b := 8) (by omega) (by omega)).mpr z))
                refine XG.blk tX9_comesOut_ok 35 2 (pc' := 66) (pl' := [some (.ref 0), some (.int (nI 0)), some (.int (nI 10))]) (st' := [(.int (nI 9)), (.int (nI 10)), (.ref 0)]) (W1 := (mW (va_up v 50 (nI W.length)) a b)) (bs := []) rfl rfl rfl ?_
                refine XG.br eX9_comesOut_66 (P := ¬ (nI 10) = (nI 9)) (r := [(.ref 0)]) rfl (tgt := 73) (by decide) (fun h66 => ?_) (fun h66 => ?_)
                · skip
                  have g66 : ¬ 10 = 9 := (fun z => h66 ((nI_eq (a := 10) (b := 9) (by omega) (by omega)).mpr z))
                  refine XG.blk tX9_comesOut_ok 40 2 (pc' := 76) (pl' := [some (.ref 0), some (.int (nI 0)), some (.int (nI 10))]) (st' := [(.int (nI 10)), (.int (nI 10)), (.ref 0)]) (W1 := (mW (va_up v 50 (nI W.length)) a b)) (bs := []) rfl rfl rfl ?_
                  refine XG.br eX9_comesOut_76 (P := ¬ (nI 10) = (nI 10)) (r := [(.ref 0)]) rfl (tgt := 83) (by decide) (fun h76 => ?_) (fun h76 => ?_)
                  · exfalso
                    have g76 : ¬ 10 = 10 := (fun z => h76 ((nI_eq (a := 10) (b := 10) (by omega) (by omega)).mpr z))
                    omega
                  · skip
                    have h76 := Decidable.not_not.mp h76
                    have g76 : 10 = 10 := (nI_eq (a := 10) (b := 10) (by omega) (by omega)).mp h76
                    refine XG.blk tX9_comesOut_ok 43 1 (pc' := 80) (pl' := [some (.ref 0), some (.int (nI 0)), some (.int (nI 10))]) (st' := [(.int (nI 4)), (.ref 0)]) (W1 := (mW (va_up v 50 (nI W.length)) a b)) (bs := []) rfl rfl rfl ?_
                    refine XG.goto eX9_comesOut_80 (tgt := 84) (by decide) ?_
                    refine XG.blk tX9_comesOut_ok 46 1 (pc' := 85) (pl' := [some (.ref 0), some (.int (nI 0)), some (.int (nI 10))]) (st' := [(.int (nI 0)), (.int (nI 4)), (.ref 0)]) (W1 := (mW (va_up v 50 (nI W.length)) a b)) (bs := []) rfl rfl rfl ?_
                    refine XG.callV0 eX9_comesOut_85 kl_X9_317 (con_emit (d - 1) (va_up v 50 (nI W.length)) a b (q0 + c.length) h46 (by omega) (nI 4) (nI 0)) (px_fitS (by omega)) rfl rfl rfl (Nat.le_of_ble_eq_true rfl) (fun r9 W9 hp9 hl9 => ?_)
                    obtain ⟨rfl, rfl⟩ := hp9
                    refine XG.goto eX9_comesOut_88 (tgt := 0) (by decide) ?_
                    rw [if_neg (by decide)] at hR
                    refine XG.weak (pl' := [some (.ref 0), some (.int (nI 0)), none]) ⟨rfl, rfl, trivial⟩ ?_
                    exact ih _ _ _ hR (hS.emit (by decide) rfl rfl rfl rfl rfl) (hv.tr ((chg.up (by decide)).tr (chg.up (by decide)))) (ha.tr (FrX.e _ _ (by omega) (by omega)))
                · exfalso
                  have h66 := Decidable.not_not.mp h66
                  have g66 : 10 = 9 := (nI_eq (a := 10) (b := 9) (by omega) (by omega)).mp h66
                  omega
              · exfalso
                have h56 := Decidable.not_not.mp h56
                have g56 : 10 = 8 := (nI_eq (a := 10) (b := 8) (by omega) (by omega)).mp h56
                omega
            · exfalso
              have g26 : ¬ 0 = 0 := (fun z => h26 ((nI_eq (a := 0) (b := 0) (by omega) (by omega)).mpr z))
              omega
    · cases st with
      | true =>
        show XG _ _ _ _ 0 [some (.ref 0), some (.int (nI 1)), none] [] _
        have q1 : (v 50) = (nI (W.length + 1)) := h50
        refine XG.blk tX9_comesOut_ok 0 2 (pc' := 4) (pl' := [some (.ref 0), some (.int (nI 1)), none]) (st' := [(.int (v 50))]) (W1 := (mW v a b)) (bs := []) rfl rfl rfl ?_
        simp only [q1]
        refine XG.br eX9_comesOut_4 (P := (nI (W.length + 1)) ≤ 0) (r := []) rfl (tgt := 91) (by decide) (fun h4 => ?_) (fun h4 => ?_)
        · exfalso
          have g4 : (W.length + 1) ≤ 0 := (nI_leI (a := (W.length + 1)) (b := 0) (by omega) (by omega)).mp h4
          omega
        · skip
          have g4 : ¬ (W.length + 1) ≤ 0 := (fun z => h4 ((nI_leI (a := (W.length + 1)) (b := 0) (by omega) (by omega)).mpr z))
          have q2 : (v 50) = (nI (W.length + 1)) := h50
          have q3 : ((nI (W.length + 1)) - (nI 1)) = (nI W.length) := px_esub (a := W.length + 1) (b := 1) rfl rfl (by omega)
          have q4 : (nI W.length).toNatClampNeg = W.length := nI_clamp (by omega)
          have q5 : ((a 49) W.length) = (nI 15) := h49
          refine XG.blk tX9_comesOut_ok 3 10 (pc' := 22) (pl' := [some (.ref 0), some (.int (nI 1)), some (.int ((a 49) ((v 50) - (nI 1)).toNatClampNeg))]) (st' := [(.int (nI 6)), (.int ((a 49) ((v 50) - (nI 1)).toNatClampNeg))]) (W1 := (mW v a b)) (bs := [px_vb ((v 50) - (nI 1)) 64]) rfl rfl (by (try simp only [q2, q3, q4, q5]); exact (px_all (px_vbN (by omega) (by decide)) rfl)) ?_
          simp only [q2, q3, q4, q5]
          refine XG.br eX9_comesOut_22 (P := (nI 15) = (nI 6)) (r := []) rfl (tgt := 41) (by decide) (fun h22 => ?_) (fun h22 => ?_)
          · exfalso
            have g22 : 15 = 6 := (nI_eq (a := 15) (b := 6) (by omega) (by omega)).mp h22
            omega
          · skip
            have g22 : ¬ 15 = 6 := (fun z => h22 ((nI_eq (a := 15) (b := 6) (by omega) (by omega)).mpr z))
            refine XG.blk tX9_comesOut_ok 14 1 (pc' := 26) (pl' := [some (.ref 0), some (.int (nI 1)), some (.int (nI 15))]) (st' := [(.int (nI 1))]) (W1 := (mW v a b)) (bs := []) rfl rfl rfl ?_
            refine XG.br eX9_comesOut_26 (P := (nI 1) = 0) (r := []) rfl (tgt := 42) (by decide) (fun h26 => ?_) (fun h26 => ?_)
            · exfalso
              have g26 : 1 = 0 := (nI_eq (a := 1) (b := 0) (by omega) (by omega)).mp h26
              omega
            · skip
              have g26 : ¬ 1 = 0 := (fun z => h26 ((nI_eq (a := 1) (b := 0) (by omega) (by omega)).mpr z))
              refine XG.blk tX9_comesOut_ok 16 2 (pc' := 32) (pl' := [some (.ref 0), some (.int (nI 1)), some (.int (nI 15))]) (st' := [(.int (nI 8)), (.int (nI 15))]) (W1 := (mW v a b)) (bs := []) rfl rfl rfl ?_
              refine XG.br eX9_comesOut_32 (P := (nI 15) = (nI 8)) (r := []) rfl (tgt := 41) (by decide) (fun h32 => ?_) (fun h32 => ?_)
              · exfalso
                have g32 : 15 = 8 := (nI_eq (a := 15) (b := 8) (by omega) (by omega)).mp h32
                omega
              · skip
                have g32 : ¬ 15 = 8 := (fun z => h32 ((nI_eq (a := 15) (b := 8) (by omega) (by omega)).mpr z))
                refine XG.blk tX9_comesOut_ok 19 2 (pc' := 38) (pl' := [some (.ref 0), some (.int (nI 1)), some (.int (nI 15))]) (st' := [(.int (nI 9)), (.int (nI 15))]) (W1 := (mW v a b)) (bs := []) rfl rfl rfl ?_
                refine XG.br eX9_comesOut_38 (P := ¬ (nI 15) = (nI 9)) (r := []) rfl (tgt := 42) (by decide) (fun h38 => ?_) (fun h38 => ?_)
                · skip
                  have g38 : ¬ 15 = 9 := (fun z => h38 ((nI_eq (a := 15) (b := 9) (by omega) (by omega)).mpr z))
                  have q6 : (v 50) = (nI (W.length + 1)) := h50
                  have q7 : ((nI (W.length + 1)) - (nI 1)) = (nI W.length) := px_esub (a := W.length + 1) (b := 1) rfl rfl (by omega)
                  refine XG.blk tX9_comesOut_ok 23 9 (pc' := 56) (pl' := [some (.ref 0), some (.int (nI 1)), some (.int (nI 15))]) (st' := [(.int (nI 8)), (.int (nI 15)), (.ref 0)]) (W1 := (mW (va_up v 50 ((v 50) - (nI 1))) a b)) (bs := []) rfl rfl rfl ?_
                  simp only [q6, q7]
                  refine XG.br eX9_comesOut_56 (P := ¬ (nI 15) = (nI 8)) (r := [(.ref 0)]) rfl (tgt := 63) (by decide) (fun h56 => ?_) (fun h56 => ?_)
                  · skip
                    have g56 : ¬ 15 = 8 := (fun z => h56 ((nI_eq (a := 15) (b := 8) (by omega) (by omega)).mpr z))
                    refine XG.blk tX9_comesOut_ok 35 2 (pc' := 66) (pl' := [some (.ref 0), some (.int (nI 1)), some (.int (nI 15))]) (st' := [(.int (nI 9)), (.int (nI 15)), (.ref 0)]) (W1 := (mW (va_up v 50 (nI W.length)) a b)) (bs := []) rfl rfl rfl ?_
                    refine XG.br eX9_comesOut_66 (P := ¬ (nI 15) = (nI 9)) (r := [(.ref 0)]) rfl (tgt := 73) (by decide) (fun h66 => ?_) (fun h66 => ?_)
                    · skip
                      have g66 : ¬ 15 = 9 := (fun z => h66 ((nI_eq (a := 15) (b := 9) (by omega) (by omega)).mpr z))
                      refine XG.blk tX9_comesOut_ok 40 2 (pc' := 76) (pl' := [some (.ref 0), some (.int (nI 1)), some (.int (nI 15))]) (st' := [(.int (nI 10)), (.int (nI 15)), (.ref 0)]) (W1 := (mW (va_up v 50 (nI W.length)) a b)) (bs := []) rfl rfl rfl ?_
                      refine XG.br eX9_comesOut_76 (P := ¬ (nI 15) = (nI 10)) (r := [(.ref 0)]) rfl (tgt := 83) (by decide) (fun h76 => ?_) (fun h76 => ?_)
                      · skip
                        have g76 : ¬ 15 = 10 := (fun z => h76 ((nI_eq (a := 15) (b := 10) (by omega) (by omega)).mpr z))
                        refine XG.blk tX9_comesOut_ok 45 2 (pc' := 85) (pl' := [some (.ref 0), some (.int (nI 1)), some (.int (nI 15))]) (st' := [(.int (nI 0)), (.int (nI 5)), (.ref 0)]) (W1 := (mW (va_up v 50 (nI W.length)) a b)) (bs := []) rfl rfl rfl ?_
                        refine XG.callV0 eX9_comesOut_85 kl_X9_317 (con_emit (d - 1) (va_up v 50 (nI W.length)) a b (q0 + c.length) h46 (by omega) (nI 5) (nI 0)) (px_fitS (by omega)) rfl rfl rfl (Nat.le_of_ble_eq_true rfl) (fun r9 W9 hp9 hl9 => ?_)
                        obtain ⟨rfl, rfl⟩ := hp9
                        refine XG.goto eX9_comesOut_88 (tgt := 0) (by decide) ?_
                        rw [if_neg (by decide)] at hR
                        refine XG.weak (pl' := [some (.ref 0), some (.int (nI 1)), none]) ⟨rfl, rfl, trivial⟩ ?_
                        exact ih _ _ _ hR (hS.emit (by decide) rfl rfl rfl rfl rfl) (hv.tr ((chg.up (by decide)).tr (chg.up (by decide)))) (ha.tr (FrX.e _ _ (by omega) (by omega)))
                      · exfalso
                        have h76 := Decidable.not_not.mp h76
                        have g76 : 15 = 10 := (nI_eq (a := 15) (b := 10) (by omega) (by omega)).mp h76
                        omega
                    · exfalso
                      have h66 := Decidable.not_not.mp h66
                      have g66 : 15 = 9 := (nI_eq (a := 15) (b := 9) (by omega) (by omega)).mp h66
                      omega
                  · exfalso
                    have h56 := Decidable.not_not.mp h56
                    have g56 : 15 = 8 := (nI_eq (a := 15) (b := 8) (by omega) (by omega)).mp h56
                    omega
                · exfalso
                  have h38 := Decidable.not_not.mp h38
                  have g38 : 15 = 9 := (nI_eq (a := 15) (b := 9) (by omega) (by omega)).mp h38
                  omega
      | false =>
        show XG _ _ _ _ 0 [some (.ref 0), some (.int (nI 0)), none] [] _
        have q1 : (v 50) = (nI (W.length + 1)) := h50
        refine XG.blk tX9_comesOut_ok 0 2 (pc' := 4) (pl' := [some (.ref 0), some (.int (nI 0)), none]) (st' := [(.int (v 50))]) (W1 := (mW v a b)) (bs := []) rfl rfl rfl ?_
        simp only [q1]
        refine XG.br eX9_comesOut_4 (P := (nI (W.length + 1)) ≤ 0) (r := []) rfl (tgt := 91) (by decide) (fun h4 => ?_) (fun h4 => ?_)
        · exfalso
          have g4 : (W.length + 1) ≤ 0 := (nI_leI (a := (W.length + 1)) (b := 0) (by omega) (by omega)).mp h4
          omega
        · skip
          have g4 : ¬ (W.length + 1) ≤ 0 := (fun z => h4 ((nI_leI (a := (W.length + 1)) (b := 0) (by omega) (by omega)).mpr z))
          have q2 : (v 50) = (nI (W.length + 1)) := h50
          have q3 : ((nI (W.length + 1)) - (nI 1)) = (nI W.length) := px_esub (a := W.length + 1) (b := 1) rfl rfl (by omega)
          have q4 : (nI W.length).toNatClampNeg = W.length := nI_clamp (by omega)
          have q5 : ((a 49) W.length) = (nI 15) := h49
          refine XG.blk tX9_comesOut_ok 3 10 (pc' := 22) (pl' := [some (.ref 0), some (.int (nI 0)), some (.int ((a 49) ((v 50) - (nI 1)).toNatClampNeg))]) (st' := [(.int (nI 6)), (.int ((a 49) ((v 50) - (nI 1)).toNatClampNeg))]) (W1 := (mW v a b)) (bs := [px_vb ((v 50) - (nI 1)) 64]) rfl rfl (by (try simp only [q2, q3, q4, q5]); exact (px_all (px_vbN (by omega) (by decide)) rfl)) ?_
          simp only [q2, q3, q4, q5]
          refine XG.br eX9_comesOut_22 (P := (nI 15) = (nI 6)) (r := []) rfl (tgt := 41) (by decide) (fun h22 => ?_) (fun h22 => ?_)
          · exfalso
            have g22 : 15 = 6 := (nI_eq (a := 15) (b := 6) (by omega) (by omega)).mp h22
            omega
          · skip
            have g22 : ¬ 15 = 6 := (fun z => h22 ((nI_eq (a := 15) (b := 6) (by omega) (by omega)).mpr z))
            refine XG.blk tX9_comesOut_ok 14 1 (pc' := 26) (pl' := [some (.ref 0), some (.int (nI 0)), some (.int (nI 15))]) (st' := [(.int (nI 0))]) (W1 := (mW v a b)) (bs := []) rfl rfl rfl ?_
            refine XG.br eX9_comesOut_26 (P := (nI 0) = 0) (r := []) rfl (tgt := 42) (by decide) (fun h26 => ?_) (fun h26 => ?_)
            · skip
              have g26 : 0 = 0 := (nI_eq (a := 0) (b := 0) (by omega) (by omega)).mp h26
              have q6 : (v 50) = (nI (W.length + 1)) := h50
              have q7 : ((nI (W.length + 1)) - (nI 1)) = (nI W.length) := px_esub (a := W.length + 1) (b := 1) rfl rfl (by omega)
              refine XG.blk tX9_comesOut_ok 23 9 (pc' := 56) (pl' := [some (.ref 0), some (.int (nI 0)), some (.int (nI 15))]) (st' := [(.int (nI 8)), (.int (nI 15)), (.ref 0)]) (W1 := (mW (va_up v 50 ((v 50) - (nI 1))) a b)) (bs := []) rfl rfl rfl ?_
              simp only [q6, q7]
              refine XG.br eX9_comesOut_56 (P := ¬ (nI 15) = (nI 8)) (r := [(.ref 0)]) rfl (tgt := 63) (by decide) (fun h56 => ?_) (fun h56 => ?_)
              · skip
                have g56 : ¬ 15 = 8 := (fun z => h56 ((nI_eq (a := 15) (b := 8) (by omega) (by omega)).mpr z))
                refine XG.blk tX9_comesOut_ok 35 2 (pc' := 66) (pl' := [some (.ref 0), some (.int (nI 0)), some (.int (nI 15))]) (st' := [(.int (nI 9)), (.int (nI 15)), (.ref 0)]) (W1 := (mW (va_up v 50 (nI W.length)) a b)) (bs := []) rfl rfl rfl ?_
                refine XG.br eX9_comesOut_66 (P := ¬ (nI 15) = (nI 9)) (r := [(.ref 0)]) rfl (tgt := 73) (by decide) (fun h66 => ?_) (fun h66 => ?_)
                · skip
                  have g66 : ¬ 15 = 9 := (fun z => h66 ((nI_eq (a := 15) (b := 9) (by omega) (by omega)).mpr z))
                  refine XG.blk tX9_comesOut_ok 40 2 (pc' := 76) (pl' := [some (.ref 0), some (.int (nI 0)), some (.int (nI 15))]) (st' := [(.int (nI 10)), (.int (nI 15)), (.ref 0)]) (W1 := (mW (va_up v 50 (nI W.length)) a b)) (bs := []) rfl rfl rfl ?_
                  refine XG.br eX9_comesOut_76 (P := ¬ (nI 15) = (nI 10)) (r := [(.ref 0)]) rfl (tgt := 83) (by decide) (fun h76 => ?_) (fun h76 => ?_)
                  · skip
                    have g76 : ¬ 15 = 10 := (fun z => h76 ((nI_eq (a := 15) (b := 10) (by omega) (by omega)).mpr z))
                    refine XG.blk tX9_comesOut_ok 45 2 (pc' := 85) (pl' := [some (.ref 0), some (.int (nI 0)), some (.int (nI 15))]) (st' := [(.int (nI 0)), (.int (nI 5)), (.ref 0)]) (W1 := (mW (va_up v 50 (nI W.length)) a b)) (bs := []) rfl rfl rfl ?_
                    refine XG.callV0 eX9_comesOut_85 kl_X9_317 (con_emit (d - 1) (va_up v 50 (nI W.length)) a b (q0 + c.length) h46 (by omega) (nI 5) (nI 0)) (px_fitS (by omega)) rfl rfl rfl (Nat.le_of_ble_eq_true rfl) (fun r9 W9 hp9 hl9 => ?_)
                    obtain ⟨rfl, rfl⟩ := hp9
                    refine XG.goto eX9_comesOut_88 (tgt := 0) (by decide) ?_
                    rw [if_neg (by decide)] at hR
                    refine XG.weak (pl' := [some (.ref 0), some (.int (nI 0)), none]) ⟨rfl, rfl, trivial⟩ ?_
                    exact ih _ _ _ hR (hS.emit (by decide) rfl rfl rfl rfl rfl) (hv.tr ((chg.up (by decide)).tr (chg.up (by decide)))) (ha.tr (FrX.e _ _ (by omega) (by omega)))
                  · exfalso
                    have h76 := Decidable.not_not.mp h76
                    have g76 : 15 = 10 := (nI_eq (a := 15) (b := 10) (by omega) (by omega)).mp h76
                    omega
                · exfalso
                  have h66 := Decidable.not_not.mp h66
                  have g66 : 15 = 9 := (nI_eq (a := 15) (b := 9) (by omega) (by omega)).mp h66
                  omega
              · exfalso
                have h56 := Decidable.not_not.mp h56
                have g56 : 15 = 8 := (nI_eq (a := 15) (b := 8) (by omega) (by omega)).mp h56
                omega
            · exfalso
              have g26 : ¬ 0 = 0 := (fun z => h26 ((nI_eq (a := 0) (b := 0) (by omega) (by omega)).mpr z))
              omega
theorem con_comesOut (d : Nat) (hd : 1 ≤ d) (v : Nat → Int32) (a : Nat → Nat → Int32) (b : Nat → Nat → Int64) (q0 sd : Nat) (hsd : sd < 2) (st : Bool) (W : List Nat) (c : Cde) (hS : St q0 sd W c v a) : Con mX9_comesOut d [.ref 0, .int (nI (if st = true then 1 else 0))] (mW v a b) (outPost q0 sd W c st v a b) := by
  refine Con.of (by decide) (Nat.le_of_ble_eq_true rfl) ?_
  exact comesOut_go d hd b q0 sd hsd st v a _ W c v a rfl hS chg.rf FrX.rf
