/-! the reference: small methods, contracts -/
theorem px_eadd {x y : Int32} {a b : Nat} (hx : x = nI a) (hy : y = nI b) : x + y = nI (a + b) := by rw [hx, hy]; exact nI_add a b
theorem px_emul {x y : Int32} {a b : Nat} (hx : x = nI a) (hy : y = nI b) : x * y = nI (a * b) := by rw [hx, hy]; exact pk_mul a b
theorem px_all {c : Bool} {bs : List Bool} (h : c = true) (h2 : bs.all id = true) : (c :: bs).all id = true := by rw [List.all_cons, h2, h]; rfl
/-- a state that a loop makes, step by step -/
def itN {α : Type} (f : Nat → α → α) (x : α) : Nat → α
  | 0 => x
  | n + 1 => f n (itN f x n)
/-- but for the numbers in S nothing has changed -/
def chg {α : Type} (S : List Nat) (f g : Nat → α) : Prop := ∀ k, k ∉ S → g k = f k
theorem chg.rf {α : Type} {S : List Nat} {f : Nat → α} : chg S f f := fun _ _ => rfl
theorem chg.tr {α : Type} {S : List Nat} {f g h : Nat → α} (h1 : chg S f g) (h2 : chg S g h) : chg S f h := fun k hk => (h2 k hk).trans (h1 k hk)
theorem chg.mono {α : Type} {S S' : List Nat} {f g : Nat → α} (h1 : chg S f g) (h2 : ∀ k ∈ S, k ∈ S') : chg S' f g := fun k hk => h1 k (fun z => hk (h2 k z))
theorem chg.up {α : Type} {S : List Nat} {f : Nat → α} {k : Nat} {x : α} (h : k ∈ S) : chg S f (va_up f k x) := by
  intro j hj
  exact if_neg (fun e => hj (by rw [e]; exact h))
theorem px_esub {x y : Int32} {a b : Nat} (hx : x = nI a) (hy : y = nI b) (h : b ≤ a) : x - y = nI (a - b) := by rw [hx, hy]; exact pk_sub h
theorem px_vb_iff {x : Int32} {n : Nat} : px_vb x n = true ↔ 0 ≤ x.toInt ∧ x.toInt < n := ⟨fun h => vp_in_iff.mp (px_vb_in h), fun h => px_vb_of (vp_in_iff.mpr h)⟩
theorem px_vb_ex {x : Int32} {n : Nat} (h : px_vb x n = true) (hn : n < 2 ^ 31) : ∃ j : Nat, j < n ∧ x = nI j := vp_in_of (px_vb_in h) hn
theorem px_inR {x : Int32} {n : Nat} (h1 : 1 ≤ n) (hn : n < 2 ^ 31) : (nI 0 ≤ x ∧ x ≤ nI (n - 1)) ↔ px_vb x n = true := by
  rw [px_vb_iff, Int32.le_iff_toInt_le, Int32.le_iff_toInt_le, nI_toInt (by omega), nI_toInt (by omega)]
  omega
/-- the text that holds now: its side, how many spans, sleepers, crossers -/
def MI (v : Nat → Int32) (a : Nat → Nat → Int32) (lv sp sl cr : Nat) : Prop := v 18 = nI lv ∧ lv < 2 ∧ a 23 lv = nI sp ∧ 1 ≤ sp ∧ sp ≤ 5 ∧ a 24 lv = nI sl ∧ sl ≤ 6 ∧ a 31 lv = nI cr ∧ cr ≤ 5
theorem MI.chg {v v' : Nat → Int32} {a a' : Nat → Nat → Int32} {lv sp sl cr : Nat} (I : MI v a lv sp sl cr) (h1 : v' 18 = v 18) (h2 : a' 23 = a 23) (h3 : a' 24 = a 24) (h4 : a' 31 = a 31) : MI v' a' lv sp sl cr := by
  unfold MI; rw [h1, h2, h3, h4]; exact I
theorem con_in (d : Nat) (x lo hi : Int32) : Con mX9_in d [.int x, .int lo, .int hi] [] (fun r _ => r = some (.int (if lo ≤ x ∧ x ≤ hi then 1 else 0))) := by
  refine Con.of (by decide) (Nat.le_of_ble_eq_true rfl) ?_
  refine XG.blk tX9_in_ok 0 2 (pc' := 2) (pl' := [some (.int x), some (.int lo), some (.int hi)]) (st' := [(.int lo), (.int x)]) (W1 := []) (bs := []) rfl rfl rfl ?_
  refine XG.br eX9_in_2 (P := x < lo) (r := []) rfl (tgt := 14) (by decide) (fun h2 => ?_) (fun h2 => ?_)
  · skip
    refine XG.blk tX9_in_ok 8 1 (pc' := 15) (pl' := [some (.int x), some (.int lo), some (.int hi)]) (st' := [(.int (nI 0))]) (W1 := []) (bs := []) rfl rfl rfl ?_
    refine XS.iret eX9_in_15 rfl (by decide) ?_
    rw [if_neg (fun hc => absurd h2 (Int32.not_lt.mpr hc.1))]; rfl
  · skip
    refine XG.blk tX9_in_ok 3 2 (pc' := 7) (pl' := [some (.int x), some (.int lo), some (.int hi)]) (st' := [(.int hi), (.int x)]) (W1 := []) (bs := []) rfl rfl rfl ?_
    refine XG.br eX9_in_7 (P := hi < x) (r := []) rfl (tgt := 14) (by decide) (fun h7 => ?_) (fun h7 => ?_)
    · skip
      refine XG.blk tX9_in_ok 8 1 (pc' := 15) (pl' := [some (.int x), some (.int lo), some (.int hi)]) (st' := [(.int (nI 0))]) (W1 := []) (bs := []) rfl rfl rfl ?_
      refine XS.iret eX9_in_15 rfl (by decide) ?_
      rw [if_neg (fun hc => absurd h7 (Int32.not_lt.mpr hc.2))]; rfl
    · skip
      refine XG.blk tX9_in_ok 6 1 (pc' := 11) (pl' := [some (.int x), some (.int lo), some (.int hi)]) (st' := [(.int (nI 1))]) (W1 := []) (bs := []) rfl rfl rfl ?_
      refine XG.goto eX9_in_11 (tgt := 15) (by decide) ?_
      refine XS.iret eX9_in_15 rfl (by decide) ?_
      rw [if_pos ⟨Int32.not_lt.mp h2, Int32.not_lt.mp h7⟩]; rfl
def heldF (x lo hi : Int32) : Int32 := if x < lo then lo else if hi < x then hi else x
theorem con_held (d : Nat) (x lo hi : Int32) : Con mX9_held d [.int x, .int lo, .int hi] [] (fun r _ => r = some (.int (heldF x lo hi))) := by
  refine Con.of (by decide) (Nat.le_of_ble_eq_true rfl) ?_
  refine XG.blk tX9_held_ok 0 2 (pc' := 2) (pl' := [some (.int x), some (.int lo), some (.int hi)]) (st' := [(.int lo), (.int x)]) (W1 := []) (bs := []) rfl rfl rfl ?_
  refine XG.br eX9_held_2 (P := lo ≤ x) (r := []) rfl (tgt := 9) (by decide) (fun h2 => ?_) (fun h2 => ?_)
  · skip
    refine XG.blk tX9_held_ok 5 2 (pc' := 11) (pl' := [some (.int x), some (.int lo), some (.int hi)]) (st' := [(.int hi), (.int x)]) (W1 := []) (bs := []) rfl rfl rfl ?_
    refine XG.br eX9_held_11 (P := x ≤ hi) (r := []) rfl (tgt := 18) (by decide) (fun h11 => ?_) (fun h11 => ?_)
    · skip
      refine XG.blk tX9_held_ok 10 1 (pc' := 19) (pl' := [some (.int x), some (.int lo), some (.int hi)]) (st' := [(.int x)]) (W1 := []) (bs := []) rfl rfl rfl ?_
      refine XS.iret eX9_held_19 rfl rfl ?_
      unfold heldF; rw [if_neg (Int32.not_lt.mpr h2), if_neg (Int32.not_lt.mpr h11)]
    · skip
      refine XG.blk tX9_held_ok 8 1 (pc' := 15) (pl' := [some (.int x), some (.int lo), some (.int hi)]) (st' := [(.int hi)]) (W1 := []) (bs := []) rfl rfl rfl ?_
      refine XG.goto eX9_held_15 (tgt := 19) (by decide) ?_
      refine XS.iret eX9_held_19 rfl rfl ?_
      unfold heldF; rw [if_neg (Int32.not_lt.mpr h2), if_pos (Int32.not_le.mp h11)]
  · skip
    refine XG.blk tX9_held_ok 3 1 (pc' := 6) (pl' := [some (.int x), some (.int lo), some (.int hi)]) (st' := [(.int lo)]) (W1 := []) (bs := []) rfl rfl rfl ?_
    refine XG.goto eX9_held_6 (tgt := 19) (by decide) ?_
    refine XS.iret eX9_held_19 rfl rfl ?_
    unfold heldF; rw [if_pos (Int32.not_le.mp h2)]
def mixF (h x : Int32) : Int32 := ((h ^^^ x) * 1103515245 + nI 12345) ^^^ ((((h ^^^ x) * 1103515245 + nI 12345)).toUInt32 >>> ((nI 15).toUInt32 &&& Int32.toUInt32 31)).toInt32
theorem con_mixed (d : Nat) (h x : Int32) : Con mX9_mixed d [.int h, .int x] [] (fun r _ => r = some (.int (mixF h x))) := by
  refine Con.of (by decide) (Nat.le_of_ble_eq_true rfl) ?_
  refine XG.blk tX9_mixed_ok 0 13 (pc' := 18) (pl' := [some (.int h), some (.int x), some (.int (((h ^^^ x) * 1103515245) + (nI 12345)))]) (st' := [(.int ((((h ^^^ x) * 1103515245) + (nI 12345)) ^^^ (((((h ^^^ x) * 1103515245) + (nI 12345))).toUInt32 >>> (((nI 15)).toUInt32 &&& Int32.toUInt32 31)).toInt32))]) (W1 := []) (bs := []) rfl rfl rfl ?_
  refine XS.iret eX9_mixed_18 rfl rfl ?_
  rfl
