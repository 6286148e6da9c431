/-! the reference: small methods, contracts -/
theorem px_eadd {x y : Int32} {a b : Nat} (hx : x = nI a) (hy : y = nI b) : x + y = nI (a + b) := by rw [hx, hy]; exact nI_add a b
theorem px_emul {x y : Int32} {a b : Nat} (hx : x = nI a) (hy : y = nI b) : x * y = nI (a * b) := by rw [hx, hy]; exact pk_mul a b
theorem px_all {c : Bool} {bs : List Bool} (h : c = true) (h2 : bs.all id = true) : (c :: bs).all id = true := by rw [List.all_cons, h2, h]; rfl
/-- a state that a loop makes, step by step -/
def itN {α : Type} (f : Nat → α → α) (x : α) : Nat → α
  | 0 => x
  | n + 1 => f n (itN f x n)
theorem itN_s {α : Type} {f : Nat → α → α} {x : α} {n : Nat} {y : α} (h : f n (itN f x n) = y) : itN f x (n + 1) = y := h
theorem con_in (d : Nat) (x lo hi : Int32) : Con mX9_in d [.int x, .int lo, .int hi] [] (fun r _ => r = some (.int (if lo ≤ x ∧ x ≤ hi then 1 else 0))) := by
  refine Con.of (by decide) (Nat.le_of_ble_eq_true rfl) ?_
  refine XG.blk tX9_in_ok 0 2 (pc' := 2) (pl' := [some (.int x), some (.int lo), some (.int hi)]) (st' := [(.int lo), (.int x)]) (W1 := []) (bs := []) rfl rfl rfl ?_
  refine XG.br eX9_in_2 (P := x < lo) (r := []) rfl (tgt := 14) (by decide) (fun h0 => ?_) (fun h0 => ?_)
  · skip
    refine XG.blk tX9_in_ok 8 1 (pc' := 15) (pl' := [some (.int x), some (.int lo), some (.int hi)]) (st' := [(.int (nI 0))]) (W1 := []) (bs := []) rfl rfl rfl ?_
    refine XS.iret eX9_in_15 rfl (by decide) ?_
    rw [if_neg (fun hc => absurd h0 (Int32.not_lt.mpr hc.1))]; rfl
  · skip
    refine XG.blk tX9_in_ok 3 2 (pc' := 7) (pl' := [some (.int x), some (.int lo), some (.int hi)]) (st' := [(.int hi), (.int x)]) (W1 := []) (bs := []) rfl rfl rfl ?_
    refine XG.br eX9_in_7 (P := hi < x) (r := []) rfl (tgt := 14) (by decide) (fun h1 => ?_) (fun h1 => ?_)
    · skip
      refine XG.blk tX9_in_ok 8 1 (pc' := 15) (pl' := [some (.int x), some (.int lo), some (.int hi)]) (st' := [(.int (nI 0))]) (W1 := []) (bs := []) rfl rfl rfl ?_
      refine XS.iret eX9_in_15 rfl (by decide) ?_
      rw [if_neg (fun hc => absurd h1 (Int32.not_lt.mpr hc.2))]; rfl
    · skip
      refine XG.blk tX9_in_ok 6 1 (pc' := 11) (pl' := [some (.int x), some (.int lo), some (.int hi)]) (st' := [(.int (nI 1))]) (W1 := []) (bs := []) rfl rfl rfl ?_
      refine XG.goto eX9_in_11 (tgt := 15) (by decide) ?_
      refine XS.iret eX9_in_15 rfl (by decide) ?_
      rw [if_pos ⟨Int32.not_lt.mp h0, Int32.not_lt.mp h1⟩]; rfl
def heldF (x lo hi : Int32) : Int32 := if x < lo then lo else if hi < x then hi else x
theorem con_held (d : Nat) (x lo hi : Int32) : Con mX9_held d [.int x, .int lo, .int hi] [] (fun r _ => r = some (.int (heldF x lo hi))) := by
  refine Con.of (by decide) (Nat.le_of_ble_eq_true rfl) ?_
  refine XG.blk tX9_held_ok 0 2 (pc' := 2) (pl' := [some (.int x), some (.int lo), some (.int hi)]) (st' := [(.int lo), (.int x)]) (W1 := []) (bs := []) rfl rfl rfl ?_
  refine XG.br eX9_held_2 (P := lo ≤ x) (r := []) rfl (tgt := 9) (by decide) (fun h0 => ?_) (fun h0 => ?_)
  · skip
    refine XG.blk tX9_held_ok 5 2 (pc' := 11) (pl' := [some (.int x), some (.int lo), some (.int hi)]) (st' := [(.int hi), (.int x)]) (W1 := []) (bs := []) rfl rfl rfl ?_
    refine XG.br eX9_held_11 (P := x ≤ hi) (r := []) rfl (tgt := 18) (by decide) (fun h1 => ?_) (fun h1 => ?_)
    · skip
      refine XG.blk tX9_held_ok 10 1 (pc' := 19) (pl' := [some (.int x), some (.int lo), some (.int hi)]) (st' := [(.int x)]) (W1 := []) (bs := []) rfl rfl rfl ?_
      refine XS.iret eX9_held_19 rfl rfl ?_
      unfold heldF; rw [if_neg (Int32.not_lt.mpr h0), if_neg (Int32.not_lt.mpr h1)]; rfl
    · skip
      refine XG.blk tX9_held_ok 8 1 (pc' := 15) (pl' := [some (.int x), some (.int lo), some (.int hi)]) (st' := [(.int hi)]) (W1 := []) (bs := []) rfl rfl rfl ?_
      refine XG.goto eX9_held_15 (tgt := 19) (by decide) ?_
      refine XS.iret eX9_held_19 rfl rfl ?_
      unfold heldF; rw [if_neg (Int32.not_lt.mpr h0), if_pos (Int32.not_le.mp h1)]; rfl
  · skip
    refine XG.blk tX9_held_ok 3 1 (pc' := 6) (pl' := [some (.int x), some (.int lo), some (.int hi)]) (st' := [(.int lo)]) (W1 := []) (bs := []) rfl rfl rfl ?_
    refine XG.goto eX9_held_6 (tgt := 19) (by decide) ?_
    refine XS.iret eX9_held_19 rfl rfl ?_
    unfold heldF; rw [if_pos (Int32.not_le.mp h0)]; rfl
def loadF (row load : Nat → Int32) (lv : Nat) (p : Int32) : Nat → Int32 → Int32 := fun c s => if row (18 + c) = p then s + load (5 * lv + c) else s
set_option maxHeartbeats 1000000 in
theorem con_loadOn (d : Nat) (v : Nat → Int32) (a : Nat → Nat → Int32) (b : Nat → Nat → Int64) (p : Int32) (lv cr : Nat) (hlv : v 18 = nI lv) (hlv2 : lv < 2) (hcr : a 31 lv = nI cr) (hcr2 : cr ≤ 5) : Con mX9_loadOn d [.ref 0, .int p] (mW v a b) (fun r W' => W' = mW v a b ∧ r = some (.int (itN (loadF (a 55) (a 32) lv p) 0 cr))) := by
  refine Con.of (by decide) (Nat.le_of_ble_eq_true rfl) ?_
  refine XG.blk tX9_loadOn_ok 0 4 (pc' := 4) (pl' := [some (.ref 0), some (.int p), some (.int (nI 0)), some (.int (nI 0))]) (st' := []) (W1 := (mW v a b)) (bs := []) rfl rfl rfl ?_
  refine px_for cr (fun i => XG mX9_loadOn _ 0 0 4 [some (.ref 0), some (.int p), some (.int (itN (loadF (a 55) (a 32) lv p) 0 i)), some (.int (nI i))] [] (mW v a b)) ?_ ?_ 0 (Nat.zero_le cr)
  · skip
    have q1 : (v 18) = (nI lv) := hlv
    have q2 : (nI lv).toNatClampNeg = lv := nI_clamp (by omega)
    have q3 : ((a 31) lv) = (nI cr) := hcr
    refine XG.blk tX9_loadOn_ok 4 6 (pc' := 14) (pl' := [some (.ref 0), some (.int p), some (.int (itN (loadF (a 55) (a 32) lv p) 0 cr)), some (.int (nI cr))]) (st' := [(.int ((a 31) (v 18).toNatClampNeg)), (.int (nI cr))]) (W1 := (mW v a b)) (bs := [px_vb (v 18) 2]) rfl rfl (by simp only [q1, q2, q3]; exact (px_all (px_vbN (by omega) (by decide)) rfl)) ?_
    simp only [q1, q2, q3]
    refine XG.br eX9_loadOn_14 (P := (nI cr) ≤ (nI cr)) (r := []) rfl (tgt := 52) (by decide) (fun h0 => ?_) (fun h0 => ?_)
    · skip
      have g0 : cr ≤ cr := (nI_leI (by omega) (by omega)).mp h0
      refine XG.blk tX9_loadOn_ok 33 1 (pc' := 53) (pl' := [some (.ref 0), some (.int p), some (.int (itN (loadF (a 55) (a 32) lv p) 0 cr)), some (.int (nI cr))]) (st' := [(.int (itN (loadF (a 55) (a 32) lv p) 0 cr))]) (W1 := (mW v a b)) (bs := []) rfl rfl rfl ?_
      refine XS.iret eX9_loadOn_53 rfl rfl ?_
      exact ⟨rfl, rfl⟩
    · exfalso
      have g0 : ¬ cr ≤ cr := (fun z => h0 ((nI_leI (by omega) (by omega)).mpr z))
      omega
  · intro i hi ih
    have q1 : (v 18) = (nI lv) := hlv
    have q2 : (nI lv).toNatClampNeg = lv := nI_clamp (by omega)
    have q3 : ((a 31) lv) = (nI cr) := hcr
    refine XG.blk tX9_loadOn_ok 4 6 (pc' := 14) (pl' := [some (.ref 0), some (.int p), some (.int (itN (loadF (a 55) (a 32) lv p) 0 i)), some (.int (nI i))]) (st' := [(.int ((a 31) (v 18).toNatClampNeg)), (.int (nI i))]) (W1 := (mW v a b)) (bs := [px_vb (v 18) 2]) rfl rfl (by simp only [q1, q2, q3]; exact (px_all (px_vbN (by omega) (by decide)) rfl)) ?_
    simp only [q1, q2, q3]
    refine XG.br eX9_loadOn_14 (P := (nI cr) ≤ (nI i)) (r := []) rfl (tgt := 52) (by decide) (fun h0 => ?_) (fun h0 => ?_)
    · exfalso
      have g0 : cr ≤ i := (nI_leI (by omega) (by omega)).mp h0
      omega
    · skip
      have g0 : ¬ cr ≤ i := (fun z => h0 ((nI_leI (by omega) (by omega)).mpr z))
      have q4 : ((nI 18) + (nI i)) = (nI (18 + i)) := px_eadd rfl rfl
      have q5 : (nI (18 + i)).toNatClampNeg = (18 + i) := nI_clamp (by omega)
      refine XG.blk tX9_loadOn_ok 11 7 (pc' := 27) (pl' := [some (.ref 0), some (.int p), some (.int (itN (loadF (a 55) (a 32) lv p) 0 i)), some (.int (nI i))]) (st' := [(.int p), (.int ((a 55) ((nI 18) + (nI i)).toNatClampNeg))]) (W1 := (mW v a b)) (bs := [px_vb ((nI 18) + (nI i)) 32]) rfl rfl (by simp only [q4, q5]; exact (px_all (px_vbN (by omega) (by decide)) rfl)) ?_
      simp only [q4, q5]
      refine XG.br eX9_loadOn_27 (P := ¬ ((a 55) (18 + i)) = p) (r := []) rfl (tgt := 46) (by decide) (fun h1 => ?_) (fun h1 => ?_)
      · skip
        have q6 : ((nI i) + (nI 1)) = (nI (i + 1)) := px_eadd rfl rfl
        refine XG.blk tX9_loadOn_ok 31 1 (pc' := 49) (pl' := [some (.ref 0), some (.int p), some (.int (itN (loadF (a 55) (a 32) lv p) 0 i)), some (.int ((nI i) + (nI 1)))]) (st' := []) (W1 := (mW v a b)) (bs := []) rfl rfl rfl ?_
        simp only [q6]
        refine XG.goto eX9_loadOn_49 (tgt := 4) (by decide) ?_
        rw [show itN (loadF (a 55) (a 32) lv p) 0 (i + 1) = itN (loadF (a 55) (a 32) lv p) 0 i from if_neg h1] at ih; exact ih
      · skip
        have h1 := Decidable.not_not.mp h1
        have q7 : (v 18) = (nI lv) := hlv
        have q8 : ((nI 5) * (nI lv)) = (nI (5 * lv)) := px_emul rfl rfl
        have q9 : ((nI (5 * lv)) + (nI i)) = (nI ((5 * lv) + i)) := px_eadd rfl rfl
        have q10 : (nI ((5 * lv) + i)).toNatClampNeg = ((5 * lv) + i) := nI_clamp (by omega)
        have q11 : ((nI i) + (nI 1)) = (nI (i + 1)) := px_eadd rfl rfl
        refine XG.blk tX9_loadOn_ok 19 13 (pc' := 49) (pl' := [some (.ref 0), some (.int p), some (.int ((itN (loadF (a 55) (a 32) lv p) 0 i) + ((a 32) (((nI 5) * (v 18)) + (nI i)).toNatClampNeg))), some (.int ((nI i) + (nI 1)))]) (st' := []) (W1 := (mW v a b)) (bs := [px_vb (((nI 5) * (v 18)) + (nI i)) 10]) rfl rfl (by simp only [q7, q8, q9, q10, q11]; exact (px_all (px_vbN (by omega) (by decide)) rfl)) ?_
        simp only [q7, q8, q9, q10, q11]
        refine XG.goto eX9_loadOn_49 (tgt := 4) (by decide) ?_
        rw [show itN (loadF (a 55) (a 32) lv p) 0 (i + 1) = itN (loadF (a 55) (a 32) lv p) 0 i + a 32 (5 * lv + i) from if_pos h1] at ih; exact ih
