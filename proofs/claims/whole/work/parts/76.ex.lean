/-! the reference: an expression; terms; laws -/
theorem W6_nil : W6 [] = 0 := rfl
theorem stk_nil (f : Nat → Int32) : stk [] f := by intro i x h; cases h
theorem segR_nil (a : Nat → Nat → Int32) (q : Nat) : segR a q [] := by intro i x h; cases h
set_option maxHeartbeats 400000 in
theorem con_expression (d : Nat) (v : Nat → Int32) (a : Nat → Nat → Int32) (b : Nat → Nat → Int64) (K : TKS) (hT : Tok K a b) (t : Nat) (w : Option PE) (h : PVr K (.inr (t, w)) v) (h12 : v 12 = nI 0) (q0 sd : Nat) (hsd : sd < 2) (h46 : v 46 = nI q0) (hq : 420 * sd ≤ q0) (hq2 : q0 ≤ t + 420 * sd) (hd : 3 ≤ d) : Con mX9_expression d [.ref 0] (mW v a b) (exPost K q0 sd w (exS K 6 t) v a b) := by
  have ht : t ≤ 400 := h.1
  have hx13 : v 13 = 0 := h.2.2.1
  rw [← au_ex K t ht]
  refine Con.of (by decide) (Nat.le_of_ble_eq_true rfl) ?_
  have q1 : (v 12) = (nI 0) := h12
  refine XG.blk tX9_expression_ok 0 9 (pc' := 13) (pl' := [some (.ref 0), some (.int (v 12)), some (.int (nI 1))]) (st' := [(.int (nI 1))]) (W1 := (mW (va_up v 50 (nI 0)) a b)) (bs := []) rfl rfl rfl ?_
  simp only [q1]
  refine XG.br eX9_expression_13 (P := (nI 1) = 0) (r := []) rfl (tgt := 272) (by decide) (fun h13 => ?_) (fun h13 => ?_)
  · exfalso
    have g13 : 1 = 0 := (nI_eq (a := 1) (b := 0) (by omega) (by omega)).mp h13
    omega
  · skip
    have g13 : ¬ 1 = 0 := (fun z => h13 ((nI_eq (a := 1) (b := 0) (by omega) (by omega)).mpr z))
    refine XG.blk tX9_expression_ok 10 2 (pc' := 20) (pl' := [some (.ref 0), some (.int (nI 0)), some (.int (nI 1))]) (st' := [(.int (v 13))]) (W1 := (mW (va_up v 50 (nI 0)) a b)) (bs := []) rfl rfl rfl ?_
    refine XG.br eX9_expression_20 (P := ¬ (v 13) = 0) (r := []) rfl (tgt := 272) (by decide) (fun h20 => ?_) (fun h20 => ?_)
    · exfalso
      exact h20 hx13
    · skip
      have h20 := Decidable.not_not.mp h20
      exact (expr_go d hd b K q0 sd hsd v a hT w _ 401).1 t [] 0 [] (va_up v 50 (nI 0)) a rfl (by omega) (PVr.v5 h rfl rfl rfl rfl rfl) h12 (by omega) rfl trivial ⟨rfl, by decide, h46, hq, by show q0 + 0 + 0 ≤ _; omega, stk_nil _, segR_nil _ _, fun x hx => by cases hx⟩ (by show q0 + 0 + 0 ≤ _; omega) (chg.up (by decide)) FrX.rf
set_option maxHeartbeats 400000 in
theorem con_expressionX (d : Nat) (v : Nat → Int32) (a : Nat → Nat → Int32) (b : Nat → Nat → Int64) (K : TKS) (e : PE) (h : PVr K (.inl e) v) : Con mX9_expression d [.ref 0] (mW v a b) (fun r W' => ∃ v', W' = mW v' a b ∧ chg [50] v v' ∧ PVr K (.inl e) v' ∧ r = none) := by
  have hx13 : ¬ v 13 = 0 := by rw [h.2.1]; exact nI_nz (by have := h.1; omega) (by have := h.1; omega)
  refine Con.of (by decide) (Nat.le_of_ble_eq_true rfl) ?_
  refine XG.blk tX9_expression_ok 0 9 (pc' := 13) (pl' := [some (.ref 0), some (.int (v 12)), some (.int (nI 1))]) (st' := [(.int (nI 1))]) (W1 := (mW (va_up v 50 (nI 0)) a b)) (bs := []) rfl rfl rfl ?_
  refine XG.br eX9_expression_13 (P := (nI 1) = 0) (r := []) rfl (tgt := 272) (by decide) (fun h13 => ?_) (fun h13 => ?_)
  · exfalso
    have g13 : 1 = 0 := (nI_eq (a := 1) (b := 0) (by omega) (by omega)).mp h13
    omega
  · skip
    have g13 : ¬ 1 = 0 := (fun z => h13 ((nI_eq (a := 1) (b := 0) (by omega) (by omega)).mpr z))
    refine XG.blk tX9_expression_ok 10 2 (pc' := 20) (pl' := [some (.ref 0), some (.int (v 12)), some (.int (nI 1))]) (st' := [(.int (v 13))]) (W1 := (mW (va_up v 50 (nI 0)) a b)) (bs := []) rfl rfl rfl ?_
    refine XG.br eX9_expression_20 (P := ¬ (v 13) = 0) (r := []) rfl (tgt := 272) (by decide) (fun h20 => ?_) (fun h20 => ?_)
    · skip
      refine XS.vret eX9_expression_272 rfl ?_
      exact ⟨_, rfl, chg.up (by decide), PVr.v5 h rfl rfl rfl rfl rfl, rfl⟩
    · exfalso
      have h20 := Decidable.not_not.mp h20
      exact hx13 h20
