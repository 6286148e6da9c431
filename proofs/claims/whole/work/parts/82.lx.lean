/-! the reference: tokens -/
def LBy (B : Nat → Nat) (n : Nat) (v : Nat → Int32) (a : Nat → Nat → Int32) : Prop := v 4 = nI n ∧ n ≤ 2000 ∧ ∀ i, i < n → a 3 i &&& nI 255 = nI (B i) ∧ B i < 256
theorem LBy.lt {B : Nat → Nat} {n : Nat} {v : Nat → Int32} {a : Nat → Nat → Int32} (h : LBy B n v a) (i : Nat) : atB B n i < 256 := by
  unfold atB
  by_cases hi : i < n
  · rw [if_pos hi]; exact (h.2.2 i hi).2
  · rw [if_neg hi]; decide
theorem lN_27 : (27 : Int64) = lN 27 := rfl
theorem nI_toL {n : Nat} (h : n < 2 ^ 31) : (nI n).toInt64 = lN n := by
  apply Int64.toInt_inj.mp
  rw [Int32.toInt_toInt64, nI_toInt h, lN_toInt h]
theorem nI_97 {x : Nat} (h : 97 ≤ x) (h2 : x < 1000) : (nI x - nI 97 + nI 1).toInt64 = lN (x - 96) := by
  rw [pk_sub h, nI_add, nI_toL (by omega)]
  congr 1; omega
set_option maxHeartbeats 400000 in
theorem con_byteAt (d : Nat) (v : Nat → Int32) (a : Nat → Nat → Int32) (b : Nat → Nat → Int64) (B : Nat → Nat) (n : Nat) (hB : LBy B n v a) (i : Nat) (hi : i < 10000) : Con mX9_byteAt d [.ref 0, .int (nI i)] (mW v a b) (fun r W' => W' = mW v a b ∧ r = some (.int (nI (atB B n i)))) := by
  obtain ⟨h4, hn, hb⟩ := hB
  refine Con.of (by decide) (Nat.le_of_ble_eq_true rfl) ?_
  have q1 : (v 4) = (nI n) := h4
  refine XG.blk tX9_byteAt_ok 0 3 (pc' := 5) (pl' := [some (.ref 0), some (.int (nI i))]) (st' := [(.int (v 4)), (.int (nI i))]) (W1 := (mW v a b)) (bs := []) rfl rfl rfl ?_
  simp only [q1]
  refine XG.br eX9_byteAt_5 (P := (nI n) ≤ (nI i)) (r := []) rfl (tgt := 21) (by decide) (fun h5 => ?_) (fun h5 => ?_)
  · skip
    have g5 : n ≤ i := (nI_leI (a := n) (b := i) (by omega) (by omega)).mp h5
    refine XG.blk tX9_byteAt_ok 11 1 (pc' := 22) (pl' := [some (.ref 0), some (.int (nI i))]) (st' := [(.int (nI 0))]) (W1 := (mW v a b)) (bs := []) rfl rfl rfl ?_
    refine XS.iret eX9_byteAt_22 rfl rfl ?_
    refine ⟨rfl, ?_⟩; unfold atB; rw [if_neg (by omega)]
  · skip
    have g5 : ¬ n ≤ i := (fun z => h5 ((nI_leI (a := n) (b := i) (by omega) (by omega)).mpr z))
    have q2 : (nI i).toNatClampNeg = i := nI_clamp (by omega)
    refine XG.blk tX9_byteAt_ok 4 6 (pc' := 18) (pl' := [some (.ref 0), some (.int (nI i))]) (st' := [(.int (((a 3) (nI i).toNatClampNeg) &&& (nI 255)))]) (W1 := (mW v a b)) (bs := [px_vb (nI i) 2000]) rfl rfl (by (try simp only [q2]); exact (px_all (px_vbN (by omega) (by decide)) rfl)) ?_
    simp only [q2]
    refine XG.goto eX9_byteAt_18 (tgt := 22) (by decide) ?_
    refine XS.iret eX9_byteAt_22 rfl rfl ?_
    refine ⟨rfl, ?_⟩; unfold atB; rw [if_pos (by omega)]; rw [← (hb i (by omega)).1]
theorem con_isDigit (d x : Nat) (hx : x < 2 ^ 31) : Con mX9_isDigit d [.int (nI x)] [] (fun r _ => r = some (.int (if dgt x then 1 else 0))) := by
  refine Con.of (by decide) (Nat.le_of_ble_eq_true rfl) ?_
  refine XG.blk tX9_isDigit_ok 0 2 (pc' := 3) (pl' := [some (.int (nI x))]) (st' := [(.int (nI 48)), (.int (nI x))]) (W1 := []) (bs := []) rfl rfl rfl ?_
  refine XG.br eX9_isDigit_3 (P := (nI x) < (nI 48)) (r := []) rfl (tgt := 16) (by decide) (fun h3 => ?_) (fun h3 => ?_)
  · skip
    have g3 : x < 48 := (nI_ltI (a := x) (b := 48) (by omega) (by omega)).mp h3
    refine XG.blk tX9_isDigit_ok 8 1 (pc' := 17) (pl' := [some (.int (nI x))]) (st' := [(.int (nI 0))]) (W1 := []) (bs := []) rfl rfl rfl ?_
    refine XS.iret eX9_isDigit_17 rfl (by decide) ?_
    rw [if_neg (by omega)]; rfl
  · skip
    have g3 : ¬ x < 48 := (fun z => h3 ((nI_ltI (a := x) (b := 48) (by omega) (by omega)).mpr z))
    refine XG.blk tX9_isDigit_ok 3 2 (pc' := 9) (pl' := [some (.int (nI x))]) (st' := [(.int (nI 57)), (.int (nI x))]) (W1 := []) (bs := []) rfl rfl rfl ?_
    refine XG.br eX9_isDigit_9 (P := (nI 57) < (nI x)) (r := []) rfl (tgt := 16) (by decide) (fun h9 => ?_) (fun h9 => ?_)
    · skip
      have g9 : 57 < x := (nI_ltI (a := 57) (b := x) (by omega) (by omega)).mp h9
      refine XG.blk tX9_isDigit_ok 8 1 (pc' := 17) (pl' := [some (.int (nI x))]) (st' := [(.int (nI 0))]) (W1 := []) (bs := []) rfl rfl rfl ?_
      refine XS.iret eX9_isDigit_17 rfl (by decide) ?_
      rw [if_neg (by omega)]; rfl
    · skip
      have g9 : ¬ 57 < x := (fun z => h9 ((nI_ltI (a := 57) (b := x) (by omega) (by omega)).mpr z))
      refine XG.blk tX9_isDigit_ok 6 1 (pc' := 13) (pl' := [some (.int (nI x))]) (st' := [(.int (nI 1))]) (W1 := []) (bs := []) rfl rfl rfl ?_
      refine XG.goto eX9_isDigit_13 (tgt := 17) (by decide) ?_
      refine XS.iret eX9_isDigit_17 rfl (by decide) ?_
      rw [if_pos (by omega)]; rfl
theorem con_isLetter (d x : Nat) (hx : x < 2 ^ 31) : Con mX9_isLetter d [.int (nI x)] [] (fun r _ => r = some (.int (if ltr x then 1 else 0))) := by
  refine Con.of (by decide) (Nat.le_of_ble_eq_true rfl) ?_
  refine XG.blk tX9_isLetter_ok 0 2 (pc' := 3) (pl' := [some (.int (nI x))]) (st' := [(.int (nI 97)), (.int (nI x))]) (W1 := []) (bs := []) rfl rfl rfl ?_
  refine XG.br eX9_isLetter_3 (P := (nI x) < (nI 97)) (r := []) rfl (tgt := 16) (by decide) (fun h3 => ?_) (fun h3 => ?_)
  · skip
    have g3 : x < 97 := (nI_ltI (a := x) (b := 97) (by omega) (by omega)).mp h3
    refine XG.blk tX9_isLetter_ok 8 1 (pc' := 17) (pl' := [some (.int (nI x))]) (st' := [(.int (nI 0))]) (W1 := []) (bs := []) rfl rfl rfl ?_
    refine XS.iret eX9_isLetter_17 rfl (by decide) ?_
    rw [if_neg (by omega)]; rfl
  · skip
    have g3 : ¬ x < 97 := (fun z => h3 ((nI_ltI (a := x) (b := 97) (by omega) (by omega)).mpr z))
    refine XG.blk tX9_isLetter_ok 3 2 (pc' := 9) (pl' := [some (.int (nI x))]) (st' := [(.int (nI 122)), (.int (nI x))]) (W1 := []) (bs := []) rfl rfl rfl ?_
    refine XG.br eX9_isLetter_9 (P := (nI 122) < (nI x)) (r := []) rfl (tgt := 16) (by decide) (fun h9 => ?_) (fun h9 => ?_)
    · skip
      have g9 : 122 < x := (nI_ltI (a := 122) (b := x) (by omega) (by omega)).mp h9
      refine XG.blk tX9_isLetter_ok 8 1 (pc' := 17) (pl' := [some (.int (nI x))]) (st' := [(.int (nI 0))]) (W1 := []) (bs := []) rfl rfl rfl ?_
      refine XS.iret eX9_isLetter_17 rfl (by decide) ?_
      rw [if_neg (by omega)]; rfl
    · skip
      have g9 : ¬ 122 < x := (fun z => h9 ((nI_ltI (a := 122) (b := x) (by omega) (by omega)).mpr z))
      refine XG.blk tX9_isLetter_ok 6 1 (pc' := 13) (pl' := [some (.int (nI x))]) (st' := [(.int (nI 1))]) (W1 := []) (bs := []) rfl rfl rfl ?_
      refine XG.goto eX9_isLetter_13 (tgt := 17) (by decide) ?_
      refine XS.iret eX9_isLetter_17 rfl (by decide) ?_
      rw [if_pos (by omega)]; rfl
theorem con_appends (d m x : Nat) (hx : 1 ≤ x) (hx2 : 97 ≤ x) (hx3 : x < 1000) : Con mX9_appends d [.long (lN m), .int (nI x)] [] (fun r _ => r = some (.long (lN (27 * m + (x - 96))))) := by
  refine Con.of (by decide) (Nat.le_of_ble_eq_true rfl) ?_
  refine XG.blk tX9_appends_ok 0 1 (pc' := 1) (pl' := [some (.long (lN m)), none, some (.int (nI x))]) (st' := [(.int (nI x))]) (W1 := []) (bs := []) rfl rfl rfl ?_
  refine XG.br eX9_appends_1 (P := ¬ (nI x) = 0) (r := []) rfl (tgt := 8) (by decide) (fun h1 => ?_) (fun h1 => ?_)
  · skip
    have g1 : ¬ x = 0 := (fun z => h1 ((nI_eq (a := x) (b := 0) (by omega) (by omega)).mpr z))
    refine XG.blk tX9_appends_ok 4 10 (pc' := 21) (pl' := [some (.long (lN m)), none, some (.int (nI x))]) (st' := [(.long ((27 * (lN m)) + ((((nI x) - (nI 97)) + (nI 1))).toInt64))]) (W1 := []) (bs := []) rfl rfl rfl ?_
    refine XS.lret eX9_appends_21 rfl ?_
    congr 2
    rw [lN_27, nI_97 hx2 hx3, lN_mul, lN_add]
  · exfalso
    have h1 := Decidable.not_not.mp h1
    have g1 : x = 0 := (nI_eq (a := x) (b := 0) (by omega) (by omega)).mp h1
    omega
set_option maxHeartbeats 400000 in
theorem con_token (d : Nat) (v : Nat → Int32) (a : Nat → Nat → Int32) (b : Nat → Nat → Int64) (k : Nat) (h10 : v 10 = nI k) (hk : k < 403) (x y z : Int32) (nm : Int64) : Con mX9_token d [.ref 0, .int x, .int y, .int z, .long nm] (mW v a b) (fun r W' => W' = mW (va_up v 10 (nI (k + 1))) (va_up (va_up (va_up a 5 (upd (a 5) k x)) 6 (upd (a 6) k y)) 7 (upd (a 7) k z)) (va_up b 8 (vp_updL (b 8) k nm)) ∧ r = none) := by
  refine Con.of (by decide) (Nat.le_of_ble_eq_true rfl) ?_
  have q1 : (v 10) = (nI k) := h10
  have q2 : (nI k).toNatClampNeg = k := nI_clamp (by omega)
  have q3 : ((nI k) + (nI 1)) = (nI (k + 1)) := px_eadd rfl rfl
  refine XG.blk tX9_token_ok 0 30 (pc' := 51) (pl' := [some (.ref 0), some (.int x), some (.int y), some (.int z), some (.long nm), none]) (st' := []) (W1 := (mW (va_up v 10 ((v 10) + (nI 1))) (va_up (va_up (va_up a 5 (upd (a 5) (v 10).toNatClampNeg x)) 6 (upd (a 6) (v 10).toNatClampNeg y)) 7 (upd (a 7) (v 10).toNatClampNeg z)) (va_up b 8 (vp_updL (b 8) (v 10).toNatClampNeg nm)))) (bs := [px_vb (v 10) 403, px_vb (v 10) 403, px_vb (v 10) 403, px_vb (v 10) 403]) rfl rfl (by (try simp only [q1, q2, q3]); exact (px_all (px_vbN (by omega) (by decide)) (px_all (px_vbN (by omega) (by decide)) (px_all (px_vbN (by omega) (by decide)) (px_all (px_vbN (by omega) (by decide)) rfl))))) ?_
  simp only [q1, q2, q3]
  refine XS.vret eX9_token_51 rfl ?_
  exact ⟨rfl, rfl⟩
set_option maxHeartbeats 400000 in
theorem con_sign (d : Nat) (v : Nat → Int32) (a : Nat → Nat → Int32) (b : Nat → Nat → Int64) (k : Nat) (h10 : v 10 = nI k) (hk : k < 403) (i : Int32) (x : Nat) (hx : x < 256) (y : Int32) (hd : 1 ≤ d) : Con mX9_sign d [.ref 0, .int i, .int (nI x), .int y] (mW v a b) (fun r W' => W' = mW (va_up v 10 (nI (k + 1))) (va_up (va_up (va_up a 5 (upd (a 5) k (nI (sgnK x)))) 6 (upd (a 6) k i)) 7 (upd (a 7) k (nI 0))) (va_up b 8 (vp_updL (b 8) k (lN 0))) ∧ r = some (.int (nI 1))) := by
  refine Con.of (by decide) (Nat.le_of_ble_eq_true rfl) ?_
  rcases (show x = 59 ∨ x = 61 ∨ x = 40 ∨ x = 41 ∨ x = 43 ∨ x = 45 ∨ x = 42 ∨ x = 47 ∨ x = 60 ∨ (x ≠ 59 ∧ x ≠ 61 ∧ x ≠ 40 ∧ x ≠ 41 ∧ x ≠ 43 ∧ x ≠ 45 ∧ x ≠ 42 ∧ x ≠ 47 ∧ x ≠ 60) by omega) with rfl | rfl | rfl | rfl | rfl | rfl | rfl | rfl | rfl | hne
  · skip
    refine XG.blk tX9_sign_ok 0 2 (pc' := 3) (pl' := [some (.ref 0), some (.int i), some (.int (nI 59)), some (.int y), none]) (st' := [(.int (nI 59)), (.int (nI 59))]) (W1 := (mW v a b)) (bs := []) rfl rfl rfl ?_
    refine XG.br eX9_sign_3 (P := ¬ (nI 59) = (nI 59)) (r := []) rfl (tgt := 10) (by decide) (fun h3 => ?_) (fun h3 => ?_)
    · exfalso
      have g3 : ¬ 59 = 59 := (fun z => h3 ((nI_eq (a := 59) (b := 59) (by omega) (by omega)).mpr z))
      omega
    · skip
      have h3 := Decidable.not_not.mp h3
      have g3 : 59 = 59 := (nI_eq (a := 59) (b := 59) (by omega) (by omega)).mp h3
      refine XG.blk tX9_sign_ok 3 1 (pc' := 7) (pl' := [some (.ref 0), some (.int i), some (.int (nI 59)), some (.int y), none]) (st' := [(.int (nI 4))]) (W1 := (mW v a b)) (bs := []) rfl rfl rfl ?_
      refine XG.goto eX9_sign_7 (tgt := 43) (by decide) ?_
      refine XG.blk tX9_sign_ok 21 3 (pc' := 48) (pl' := [some (.ref 0), some (.int i), some (.int (nI 59)), some (.int y), some (.int (nI 4))]) (st' := [(.int (nI 43)), (.int (nI 59))]) (W1 := (mW v a b)) (bs := []) rfl rfl rfl ?_
      refine XG.br eX9_sign_48 (P := ¬ (nI 59) = (nI 43)) (r := []) rfl (tgt := 55) (by decide) (fun h48 => ?_) (fun h48 => ?_)
      · skip
        have g48 : ¬ 59 = 43 := (fun z => h48 ((nI_eq (a := 59) (b := 43) (by omega) (by omega)).mpr z))
        refine XG.blk tX9_sign_ok 27 2 (pc' := 58) (pl' := [some (.ref 0), some (.int i), some (.int (nI 59)), some (.int y), some (.int (nI 4))]) (st' := [(.int (nI 45)), (.int (nI 59))]) (W1 := (mW v a b)) (bs := []) rfl rfl rfl ?_
        refine XG.br eX9_sign_58 (P := ¬ (nI 59) = (nI 45)) (r := []) rfl (tgt := 65) (by decide) (fun h58 => ?_) (fun h58 => ?_)
        · skip
          have g58 : ¬ 59 = 45 := (fun z => h58 ((nI_eq (a := 59) (b := 45) (by omega) (by omega)).mpr z))
          refine XG.blk tX9_sign_ok 32 2 (pc' := 68) (pl' := [some (.ref 0), some (.int i), some (.int (nI 59)), some (.int y), some (.int (nI 4))]) (st' := [(.int (nI 42)), (.int (nI 59))]) (W1 := (mW v a b)) (bs := []) rfl rfl rfl ?_
          refine XG.br eX9_sign_68 (P := ¬ (nI 59) = (nI 42)) (r := []) rfl (tgt := 75) (by decide) (fun h68 => ?_) (fun h68 => ?_)
          · skip
            have g68 : ¬ 59 = 42 := (fun z => h68 ((nI_eq (a := 59) (b := 42) (by omega) (by omega)).mpr z))
            refine XG.blk tX9_sign_ok 37 2 (pc' := 78) (pl' := [some (.ref 0), some (.int i), some (.int (nI 59)), some (.int y), some (.int (nI 4))]) (st' := [(.int (nI 47)), (.int (nI 59))]) (W1 := (mW v a b)) (bs := []) rfl rfl rfl ?_
            refine XG.br eX9_sign_78 (P := ¬ (nI 59) = (nI 47)) (r := []) rfl (tgt := 85) (by decide) (fun h78 => ?_) (fun h78 => ?_)
            · skip
              have g78 : ¬ 59 = 47 := (fun z => h78 ((nI_eq (a := 59) (b := 47) (by omega) (by omega)).mpr z))
              refine XG.blk tX9_sign_ok 42 2 (pc' := 88) (pl' := [some (.ref 0), some (.int i), some (.int (nI 59)), some (.int y), some (.int (nI 4))]) (st' := [(.int (nI 60)), (.int (nI 59))]) (W1 := (mW v a b)) (bs := []) rfl rfl rfl ?_
              refine XG.br eX9_sign_88 (P := ¬ (nI 59) = (nI 60)) (r := []) rfl (tgt := 95) (by decide) (fun h88 => ?_) (fun h88 => ?_)
              · skip
                have g88 : ¬ 59 = 60 := (fun z => h88 ((nI_eq (a := 59) (b := 60) (by omega) (by omega)).mpr z))
                refine XG.blk tX9_sign_ok 47 5 (pc' := 101) (pl' := [some (.ref 0), some (.int i), some (.int (nI 59)), some (.int y), some (.int (nI 4))]) (st' := [(.long (lN 0)), (.int (nI 0)), (.int i), (.int (nI 4)), (.ref 0)]) (W1 := (mW v a b)) (bs := []) rfl rfl rfl ?_
                refine XG.callV0 eX9_sign_101 kl_X9_200 (con_token (d - 1) v a b k h10 (by omega) (nI 4) i (nI 0) (lN 0)) (px_fitS (by omega)) rfl rfl rfl (Nat.le_of_ble_eq_true rfl) (fun r9 W9 hp9 hl9 => ?_)
                obtain ⟨rfl, rfl⟩ := hp9
                refine XG.blk tX9_sign_ok 53 1 (pc' := 105) (pl' := [some (.ref 0), some (.int i), some (.int (nI 59)), some (.int y), some (.int (nI 4))]) (st' := [(.int (nI 1))]) (W1 := (mW (va_up v 10 (nI (k + 1))) (va_up (va_up (va_up a 5 (upd (a 5) k (nI 4))) 6 (upd (a 6) k i)) 7 (upd (a 7) k (nI 0))) (va_up b 8 (vp_updL (b 8) k (lN 0))))) (bs := []) rfl rfl rfl ?_
                refine XS.iret eX9_sign_105 rfl rfl ?_
                exact ⟨rfl, rfl⟩
              · exfalso
                have h88 := Decidable.not_not.mp h88
                have g88 : 59 = 60 := (nI_eq (a := 59) (b := 60) (by omega) (by omega)).mp h88
                omega
            · exfalso
              have h78 := Decidable.not_not.mp h78
              have g78 : 59 = 47 := (nI_eq (a := 59) (b := 47) (by omega) (by omega)).mp h78
              omega
          · exfalso
            have h68 := Decidable.not_not.mp h68
            have g68 : 59 = 42 := (nI_eq (a := 59) (b := 42) (by omega) (by omega)).mp h68
            omega
        · exfalso
          have h58 := Decidable.not_not.mp h58
          have g58 : 59 = 45 := (nI_eq (a := 59) (b := 45) (by omega) (by omega)).mp h58
          omega
      · exfalso
        have h48 := Decidable.not_not.mp h48
        have g48 : 59 = 43 := (nI_eq (a := 59) (b := 43) (by omega) (by omega)).mp h48
        omega
  · skip
    refine XG.blk tX9_sign_ok 0 2 (pc' := 3) (pl' := [some (.ref 0), some (.int i), some (.int (nI 61)), some (.int y), none]) (st' := [(.int (nI 59)), (.int (nI 61))]) (W1 := (mW v a b)) (bs := []) rfl rfl rfl ?_
    refine XG.br eX9_sign_3 (P := ¬ (nI 61) = (nI 59)) (r := []) rfl (tgt := 10) (by decide) (fun h3 => ?_) (fun h3 => ?_)
    · skip
      have g3 : ¬ 61 = 59 := (fun z => h3 ((nI_eq (a := 61) (b := 59) (by omega) (by omega)).mpr z))
      refine XG.blk tX9_sign_ok 5 2 (pc' := 13) (pl' := [some (.ref 0), some (.int i), some (.int (nI 61)), some (.int y), none]) (st' := [(.int (nI 61)), (.int (nI 61))]) (W1 := (mW v a b)) (bs := []) rfl rfl rfl ?_
      refine XG.br eX9_sign_13 (P := ¬ (nI 61) = (nI 61)) (r := []) rfl (tgt := 20) (by decide) (fun h13 => ?_) (fun h13 => ?_)
      · exfalso
        have g13 : ¬ 61 = 61 := (fun z => h13 ((nI_eq (a := 61) (b := 61) (by omega) (by omega)).mpr z))
        omega
      · skip
        have h13 := Decidable.not_not.mp h13
        have g13 : 61 = 61 := (nI_eq (a := 61) (b := 61) (by omega) (by omega)).mp h13
        refine XG.blk tX9_sign_ok 8 1 (pc' := 17) (pl' := [some (.ref 0), some (.int i), some (.int (nI 61)), some (.int y), none]) (st' := [(.int (nI 5))]) (W1 := (mW v a b)) (bs := []) rfl rfl rfl ?_
        refine XG.goto eX9_sign_17 (tgt := 43) (by decide) ?_
        refine XG.blk tX9_sign_ok 21 3 (pc' := 48) (pl' := [some (.ref 0), some (.int i), some (.int (nI 61)), some (.int y), some (.int (nI 5))]) (st' := [(.int (nI 43)), (.int (nI 61))]) (W1 := (mW v a b)) (bs := []) rfl rfl rfl ?_
        refine XG.br eX9_sign_48 (P := ¬ (nI 61) = (nI 43)) (r := []) rfl (tgt := 55) (by decide) (fun h48 => ?_) (fun h48 => ?_)
        · skip
          have g48 : ¬ 61 = 43 := (fun z => h48 ((nI_eq (a := 61) (b := 43) (by omega) (by omega)).mpr z))
          refine XG.blk tX9_sign_ok 27 2 (pc' := 58) (pl' := [some (.ref 0), some (.int i), some (.int (nI 61)), some (.int y), some (.int (nI 5))]) (st' := [(.int (nI 45)), (.int (nI 61))]) (W1 := (mW v a b)) (bs := []) rfl rfl rfl ?_
          refine XG.br eX9_sign_58 (P := ¬ (nI 61) = (nI 45)) (r := []) rfl (tgt := 65) (by decide) (fun h58 => ?_) (fun h58 => ?_)
          · skip
            have g58 : ¬ 61 = 45 := (fun z => h58 ((nI_eq (a := 61) (b := 45) (by omega) (by omega)).mpr z))
            refine XG.blk tX9_sign_ok 32 2 (pc' := 68) (pl' := [some (.ref 0), some (.int i), some (.int (nI 61)), some (.int y), some (.int (nI 5))]) (st' := [(.int (nI 42)), (.int (nI 61))]) (W1 := (mW v a b)) (bs := []) rfl rfl rfl ?_
            refine XG.br eX9_sign_68 (P := ¬ (nI 61) = (nI 42)) (r := []) rfl (tgt := 75) (by decide) (fun h68 => ?_) (fun h68 => ?_)
            · skip
              have g68 : ¬ 61 = 42 := (fun z => h68 ((nI_eq (a := 61) (b := 42) (by omega) (by omega)).mpr z))
              refine XG.blk tX9_sign_ok 37 2 (pc' := 78) (pl' := [some (.ref 0), some (.int i), some (.int (nI 61)), some (.int y), some (.int (nI 5))]) (st' := [(.int (nI 47)), (.int (nI 61))]) (W1 := (mW v a b)) (bs := []) rfl rfl rfl ?_
              refine XG.br eX9_sign_78 (P := ¬ (nI 61) = (nI 47)) (r := []) rfl (tgt := 85) (by decide) (fun h78 => ?_) (fun h78 => ?_)
              · skip
                have g78 : ¬ 61 = 47 := (fun z => h78 ((nI_eq (a := 61) (b := 47) (by omega) (by omega)).mpr z))
                refine XG.blk tX9_sign_ok 42 2 (pc' := 88) (pl' := [some (.ref 0), some (.int i), some (.int (nI 61)), some (.int y), some (.int (nI 5))]) (st' := [(.int (nI 60)), (.int (nI 61))]) (W1 := (mW v a b)) (bs := []) rfl rfl rfl ?_
                refine XG.br eX9_sign_88 (P := ¬ (nI 61) = (nI 60)) (r := []) rfl (tgt := 95) (by decide) (fun h88 => ?_) (fun h88 => ?_)
                · skip
                  have g88 : ¬ 61 = 60 := (fun z => h88 ((nI_eq (a := 61) (b := 60) (by omega) (by omega)).mpr z))
                  refine XG.blk tX9_sign_ok 47 5 (pc' := 101) (pl' := [some (.ref 0), some (.int i), some (.int (nI 61)), some (.int y), some (.int (nI 5))]) (st' := [(.long (lN 0)), (.int (nI 0)), (.int i), (.int (nI 5)), (.ref 0)]) (W1 := (mW v a b)) (bs := []) rfl rfl rfl ?_
                  refine XG.callV0 eX9_sign_101 kl_X9_200 (con_token (d - 1) v a b k h10 (by omega) (nI 5) i (nI 0) (lN 0)) (px_fitS (by omega)) rfl rfl rfl (Nat.le_of_ble_eq_true rfl) (fun r9 W9 hp9 hl9 => ?_)
                  obtain ⟨rfl, rfl⟩ := hp9
                  refine XG.blk tX9_sign_ok 53 1 (pc' := 105) (pl' := [some (.ref 0), some (.int i), some (.int (nI 61)), some (.int y), some (.int (nI 5))]) (st' := [(.int (nI 1))]) (W1 := (mW (va_up v 10 (nI (k + 1))) (va_up (va_up (va_up a 5 (upd (a 5) k (nI 5))) 6 (upd (a 6) k i)) 7 (upd (a 7) k (nI 0))) (va_up b 8 (vp_updL (b 8) k (lN 0))))) (bs := []) rfl rfl rfl ?_
                  refine XS.iret eX9_sign_105 rfl rfl ?_
                  exact ⟨rfl, rfl⟩
                · exfalso
                  have h88 := Decidable.not_not.mp h88
                  have g88 : 61 = 60 := (nI_eq (a := 61) (b := 60) (by omega) (by omega)).mp h88
                  omega
              · exfalso
                have h78 := Decidable.not_not.mp h78
                have g78 : 61 = 47 := (nI_eq (a := 61) (b := 47) (by omega) (by omega)).mp h78
                omega
            · exfalso
              have h68 := Decidable.not_not.mp h68
              have g68 : 61 = 42 := (nI_eq (a := 61) (b := 42) (by omega) (by omega)).mp h68
              omega
          · exfalso
            have h58 := Decidable.not_not.mp h58
            have g58 : 61 = 45 := (nI_eq (a := 61) (b := 45) (by omega) (by omega)).mp h58
            omega
        · exfalso
          have h48 := Decidable.not_not.mp h48
          have g48 : 61 = 43 := (nI_eq (a := 61) (b := 43) (by omega) (by omega)).mp h48
          omega
    · exfalso
      have h3 := Decidable.not_not.mp h3
      have g3 : 61 = 59 := (nI_eq (a := 61) (b := 59) (by omega) (by omega)).mp h3
      omega
  · skip
    refine XG.blk tX9_sign_ok 0 2 (pc' := 3) (pl' := [some (.ref 0), some (.int i), some (.int (nI 40)), some (.int y), none]) (st' := [(.int (nI 59)), (.int (nI 40))]) (W1 := (mW v a b)) (bs := []) rfl rfl rfl ?_
    refine XG.br eX9_sign_3 (P := ¬ (nI 40) = (nI 59)) (r := []) rfl (tgt := 10) (by decide) (fun h3 => ?_) (fun h3 => ?_)
    · skip
      have g3 : ¬ 40 = 59 := (fun z => h3 ((nI_eq (a := 40) (b := 59) (by omega) (by omega)).mpr z))
      refine XG.blk tX9_sign_ok 5 2 (pc' := 13) (pl' := [some (.ref 0), some (.int i), some (.int (nI 40)), some (.int y), none]) (st' := [(.int (nI 61)), (.int (nI 40))]) (W1 := (mW v a b)) (bs := []) rfl rfl rfl ?_
      refine XG.br eX9_sign_13 (P := ¬ (nI 40) = (nI 61)) (r := []) rfl (tgt := 20) (by decide) (fun h13 => ?_) (fun h13 => ?_)
      · skip
        have g13 : ¬ 40 = 61 := (fun z => h13 ((nI_eq (a := 40) (b := 61) (by omega) (by omega)).mpr z))
        refine XG.blk tX9_sign_ok 10 2 (pc' := 23) (pl' := [some (.ref 0), some (.int i), some (.int (nI 40)), some (.int y), none]) (st' := [(.int (nI 40)), (.int (nI 40))]) (W1 := (mW v a b)) (bs := []) rfl rfl rfl ?_
        refine XG.br eX9_sign_23 (P := ¬ (nI 40) = (nI 40)) (r := []) rfl (tgt := 31) (by decide) (fun h23 => ?_) (fun h23 => ?_)
        · exfalso
          have g23 : ¬ 40 = 40 := (fun z => h23 ((nI_eq (a := 40) (b := 40) (by omega) (by omega)).mpr z))
          omega
        · skip
          have h23 := Decidable.not_not.mp h23
          have g23 : 40 = 40 := (nI_eq (a := 40) (b := 40) (by omega) (by omega)).mp h23
          refine XG.blk tX9_sign_ok 13 1 (pc' := 28) (pl' := [some (.ref 0), some (.int i), some (.int (nI 40)), some (.int y), none]) (st' := [(.int (nI 6))]) (W1 := (mW v a b)) (bs := []) rfl rfl rfl ?_
          refine XG.goto eX9_sign_28 (tgt := 43) (by decide) ?_
          refine XG.blk tX9_sign_ok 21 3 (pc' := 48) (pl' := [some (.ref 0), some (.int i), some (.int (nI 40)), some (.int y), some (.int (nI 6))]) (st' := [(.int (nI 43)), (.int (nI 40))]) (W1 := (mW v a b)) (bs := []) rfl rfl rfl ?_
          refine XG.br eX9_sign_48 (P := ¬ (nI 40) = (nI 43)) (r := []) rfl (tgt := 55) (by decide) (fun h48 => ?_) (fun h48 => ?_)
          · skip
            have g48 : ¬ 40 = 43 := (fun z => h48 ((nI_eq (a := 40) (b := 43) (by omega) (by omega)).mpr z))
            refine XG.blk tX9_sign_ok 27 2 (pc' := 58) (pl' := [some (.ref 0), some (.int i), some (.int (nI 40)), some (.int y), some (.int (nI 6))]) (st' := [(.int (nI 45)), (.int (nI 40))]) (W1 := (mW v a b)) (bs := []) rfl rfl rfl ?_
            refine XG.br eX9_sign_58 (P := ¬ (nI 40) = (nI 45)) (r := []) rfl (tgt := 65) (by decide) (fun h58 => ?_) (fun h58 => ?_)
            · skip
              have g58 : ¬ 40 = 45 := (fun z => h58 ((nI_eq (a := 40) (b := 45) (by omega) (by omega)).mpr z))
              refine XG.blk tX9_sign_ok 32 2 (pc' := 68) (pl' := [some (.ref 0), some (.int i), some (.int (nI 40)), some (.int y), some (.int (nI 6))]) (st' := [(.int (nI 42)), (.int (nI 40))]) (W1 := (mW v a b)) (bs := []) rfl rfl rfl ?_
              refine XG.br eX9_sign_68 (P := ¬ (nI 40) = (nI 42)) (r := []) rfl (tgt := 75) (by decide) (fun h68 => ?_) (fun h68 => ?_)
              · skip
                have g68 : ¬ 40 = 42 := (fun z => h68 ((nI_eq (a := 40) (b := 42) (by omega) (by omega)).mpr z))
                refine XG.blk tX9_sign_ok 37 2 (pc' := 78) (pl' := [some (.ref 0), some (.int i), some (.int (nI 40)), some (.int y), some (.int (nI 6))]) (st' := [(.int (nI 47)), (.int (nI 40))]) (W1 := (mW v a b)) (bs := []) rfl rfl rfl ?_
                refine XG.br eX9_sign_78 (P := ¬ (nI 40) = (nI 47)) (r := []) rfl (tgt := 85) (by decide) (fun h78 => ?_) (fun h78 => ?_)
                · skip
                  have g78 : ¬ 40 = 47 := (fun z => h78 ((nI_eq (a := 40) (b := 47) (by omega) (by omega)).mpr z))
                  refine XG.blk tX9_sign_ok 42 2 (pc' := 88) (pl' := [some (.ref 0), some (.int i), some (.int (nI 40)), some (.int y), some (.int (nI 6))]) (st' := [(.int (nI 60)), (.int (nI 40))]) (W1 := (mW v a b)) (bs := []) rfl rfl rfl ?_
                  refine XG.br eX9_sign_88 (P := ¬ (nI 40) = (nI 60)) (r := []) rfl (tgt := 95) (by decide) (fun h88 => ?_) (fun h88 => ?_)
                  · skip
                    have g88 : ¬ 40 = 60 := (fun z => h88 ((nI_eq (a := 40) (b := 60) (by omega) (by omega)).mpr z))
                    refine XG.blk tX9_sign_ok 47 5 (pc' := 101) (pl' := [some (.ref 0), some (.int i), some (.int (nI 40)), some (.int y), some (.int (nI 6))]) (st' := [(.long (lN 0)), (.int (nI 0)), (.int i), (.int (nI 6)), (.ref 0)]) (W1 := (mW v a b)) (bs := []) rfl rfl rfl ?_
                    refine XG.callV0 eX9_sign_101 kl_X9_200 (con_token (d - 1) v a b k h10 (by omega) (nI 6) i (nI 0) (lN 0)) (px_fitS (by omega)) rfl rfl rfl (Nat.le_of_ble_eq_true rfl) (fun r9 W9 hp9 hl9 => ?_)
                    obtain ⟨rfl, rfl⟩ := hp9
                    refine XG.blk tX9_sign_ok 53 1 (pc' := 105) (pl' := [some (.ref 0), some (.int i), some (.int (nI 40)), some (.int y), some (.int (nI 6))]) (st' := [(.int (nI 1))]) (W1 := (mW (va_up v 10 (nI (k + 1))) (va_up (va_up (va_up a 5 (upd (a 5) k (nI 6))) 6 (upd (a 6) k i)) 7 (upd (a 7) k (nI 0))) (va_up b 8 (vp_updL (b 8) k (lN 0))))) (bs := []) rfl rfl rfl ?_
                    refine XS.iret eX9_sign_105 rfl rfl ?_
                    exact ⟨rfl, rfl⟩
                  · exfalso
                    have h88 := Decidable.not_not.mp h88
                    have g88 : 40 = 60 := (nI_eq (a := 40) (b := 60) (by omega) (by omega)).mp h88
                    omega
                · exfalso
                  have h78 := Decidable.not_not.mp h78
                  have g78 : 40 = 47 := (nI_eq (a := 40) (b := 47) (by omega) (by omega)).mp h78
                  omega
              · exfalso
                have h68 := Decidable.not_not.mp h68
                have g68 : 40 = 42 := (nI_eq (a := 40) (b := 42) (by omega) (by omega)).mp h68
                omega
            · exfalso
              have h58 := Decidable.not_not.mp h58
              have g58 : 40 = 45 := (nI_eq (a := 40) (b := 45) (by omega) (by omega)).mp h58
              omega
          · exfalso
            have h48 := Decidable.not_not.mp h48
            have g48 : 40 = 43 := (nI_eq (a := 40) (b := 43) (by omega) (by omega)).mp h48
            omega
      · exfalso
        have h13 := Decidable.not_not.mp h13
        have g13 : 40 = 61 := (nI_eq (a := 40) (b := 61) (by omega) (by omega)).mp h13
        omega
    · exfalso
      have h3 := Decidable.not_not.mp h3
      have g3 : 40 = 59 := (nI_eq (a := 40) (b := 59) (by omega) (by omega)).mp h3
      omega
  · skip
    refine XG.blk tX9_sign_ok 0 2 (pc' := 3) (pl' := [some (.ref 0), some (.int i), some (.int (nI 41)), some (.int y), none]) (st' := [(.int (nI 59)), (.int (nI 41))]) (W1 := (mW v a b)) (bs := []) rfl rfl rfl ?_
    refine XG.br eX9_sign_3 (P := ¬ (nI 41) = (nI 59)) (r := []) rfl (tgt := 10) (by decide) (fun h3 => ?_) (fun h3 => ?_)
    · skip
      have g3 : ¬ 41 = 59 := (fun z => h3 ((nI_eq (a := 41) (b := 59) (by omega) (by omega)).mpr z))
      refine XG.blk tX9_sign_ok 5 2 (pc' := 13) (pl' := [some (.ref 0), some (.int i), some (.int (nI 41)), some (.int y), none]) (st' := [(.int (nI 61)), (.int (nI 41))]) (W1 := (mW v a b)) (bs := []) rfl rfl rfl ?_
      refine XG.br eX9_sign_13 (P := ¬ (nI 41) = (nI 61)) (r := []) rfl (tgt := 20) (by decide) (fun h13 => ?_) (fun h13 => ?_)
      · skip
        have g13 : ¬ 41 = 61 := (fun z => h13 ((nI_eq (a := 41) (b := 61) (by omega) (by omega)).mpr z))
        refine XG.blk tX9_sign_ok 10 2 (pc' := 23) (pl' := [some (.ref 0), some (.int i), some (.int (nI 41)), some (.int y), none]) (st' := [(.int (nI 40)), (.int (nI 41))]) (W1 := (mW v a b)) (bs := []) rfl rfl rfl ?_
        refine XG.br eX9_sign_23 (P := ¬ (nI 41) = (nI 40)) (r := []) rfl (tgt := 31) (by decide) (fun h23 => ?_) (fun h23 => ?_)
        · skip
          have g23 : ¬ 41 = 40 := (fun z => h23 ((nI_eq (a := 41) (b := 40) (by omega) (by omega)).mpr z))
          refine XG.blk tX9_sign_ok 15 2 (pc' := 34) (pl' := [some (.ref 0), some (.int i), some (.int (nI 41)), some (.int y), none]) (st' := [(.int (nI 41)), (.int (nI 41))]) (W1 := (mW v a b)) (bs := []) rfl rfl rfl ?_
          refine XG.br eX9_sign_34 (P := ¬ (nI 41) = (nI 41)) (r := []) rfl (tgt := 42) (by decide) (fun h34 => ?_) (fun h34 => ?_)
          · exfalso
            have g34 : ¬ 41 = 41 := (fun z => h34 ((nI_eq (a := 41) (b := 41) (by omega) (by omega)).mpr z))
            omega
          · skip
            have h34 := Decidable.not_not.mp h34
            have g34 : 41 = 41 := (nI_eq (a := 41) (b := 41) (by omega) (by omega)).mp h34
            refine XG.blk tX9_sign_ok 18 1 (pc' := 39) (pl' := [some (.ref 0), some (.int i), some (.int (nI 41)), some (.int y), none]) (st' := [(.int (nI 7))]) (W1 := (mW v a b)) (bs := []) rfl rfl rfl ?_
            refine XG.goto eX9_sign_39 (tgt := 43) (by decide) ?_
            refine XG.blk tX9_sign_ok 21 3 (pc' := 48) (pl' := [some (.ref 0), some (.int i), some (.int (nI 41)), some (.int y), some (.int (nI 7))]) (st' := [(.int (nI 43)), (.int (nI 41))]) (W1 := (mW v a b)) (bs := []) rfl rfl rfl ?_
            refine XG.br eX9_sign_48 (P := ¬ (nI 41) = (nI 43)) (r := []) rfl (tgt := 55) (by decide) (fun h48 => ?_) (fun h48 => ?_)
            · skip
              have g48 : ¬ 41 = 43 := (fun z => h48 ((nI_eq (a := 41) (b := 43) (by omega) (by omega)).mpr z))
              refine XG.blk tX9_sign_ok 27 2 (pc' := 58) (pl' := [some (.ref 0), some (.int i), some (.int (nI 41)), some (.int y), some (.int (nI 7))]) (st' := [(.int (nI 45)), (.int (nI 41))]) (W1 := (mW v a b)) (bs := []) rfl rfl rfl ?_
              refine XG.br eX9_sign_58 (P := ¬ (nI 41) = (nI 45)) (r := []) rfl (tgt := 65) (by decide) (fun h58 => ?_) (fun h58 => ?_)
              · skip
                have g58 : ¬ 41 = 45 := (fun z => h58 ((nI_eq (a := 41) (b := 45) (by omega) (by omega)).mpr z))
                refine XG.blk tX9_sign_ok 32 2 (pc' := 68) (pl' := [some (.ref 0), some (.int i), some (.int (nI 41)), some (.int y), some (.int (nI 7))]) (st' := [(.int (nI 42)), (.int (nI 41))]) (W1 := (mW v a b)) (bs := []) rfl rfl rfl ?_
                refine XG.br eX9_sign_68 (P := ¬ (nI 41) = (nI 42)) (r := []) rfl (tgt := 75) (by decide) (fun h68 => ?_) (fun h68 => ?_)
                · skip
                  have g68 : ¬ 41 = 42 := (fun z => h68 ((nI_eq (a := 41) (b := 42) (by omega) (by omega)).mpr z))
                  refine XG.blk tX9_sign_ok 37 2 (pc' := 78) (pl' := [some (.ref 0), some (.int i), some (.int (nI 41)), some (.int y), some (.int (nI 7))]) (st' := [(.int (nI 47)), (.int (nI 41))]) (W1 := (mW v a b)) (bs := []) rfl rfl rfl ?_
                  refine XG.br eX9_sign_78 (P := ¬ (nI 41) = (nI 47)) (r := []) rfl (tgt := 85) (by decide) (fun h78 => ?_) (fun h78 => ?_)
                  · skip
                    have g78 : ¬ 41 = 47 := (fun z => h78 ((nI_eq (a := 41) (b := 47) (by omega) (by omega)).mpr z))
                    refine XG.blk tX9_sign_ok 42 2 (pc' := 88) (pl' := [some (.ref 0), some (.int i), some (.int (nI 41)), some (.int y), some (.int (nI 7))]) (st' := [(.int (nI 60)), (.int (nI 41))]) (W1 := (mW v a b)) (bs := []) rfl rfl rfl ?_
                    refine XG.br eX9_sign_88 (P := ¬ (nI 41) = (nI 60)) (r := []) rfl (tgt := 95) (by decide) (fun h88 => ?_) (fun h88 => ?_)
                    · skip
                      have g88 : ¬ 41 = 60 := (fun z => h88 ((nI_eq (a := 41) (b := 60) (by omega) (by omega)).mpr z))
                      refine XG.blk tX9_sign_ok 47 5 (pc' := 101) (pl' := [some (.ref 0), some (.int i), some (.int (nI 41)), some (.int y), some (.int (nI 7))]) (st' := [(.long (lN 0)), (.int (nI 0)), (.int i), (.int (nI 7)), (.ref 0)]) (W1 := (mW v a b)) (bs := []) rfl rfl rfl ?_
                      refine XG.callV0 eX9_sign_101 kl_X9_200 (con_token (d - 1) v a b k h10 (by omega) (nI 7) i (nI 0) (lN 0)) (px_fitS (by omega)) rfl rfl rfl (Nat.le_of_ble_eq_true rfl) (fun r9 W9 hp9 hl9 => ?_)
                      obtain ⟨rfl, rfl⟩ := hp9
                      refine XG.blk tX9_sign_ok 53 1 (pc' := 105) (pl' := [some (.ref 0), some (.int i), some (.int (nI 41)), some (.int y), some (.int (nI 7))]) (st' := [(.int (nI 1))]) (W1 := (mW (va_up v 10 (nI (k + 1))) (va_up (va_up (va_up a 5 (upd (a 5) k (nI 7))) 6 (upd (a 6) k i)) 7 (upd (a 7) k (nI 0))) (va_up b 8 (vp_updL (b 8) k (lN 0))))) (bs := []) rfl rfl rfl ?_
                      refine XS.iret eX9_sign_105 rfl rfl ?_
                      exact ⟨rfl, rfl⟩
                    · exfalso
                      have h88 := Decidable.not_not.mp h88
                      have g88 : 41 = 60 := (nI_eq (a := 41) (b := 60) (by omega) (by omega)).mp h88
                      omega
                  · exfalso
                    have h78 := Decidable.not_not.mp h78
                    have g78 : 41 = 47 := (nI_eq (a := 41) (b := 47) (by omega) (by omega)).mp h78
                    omega
                · exfalso
                  have h68 := Decidable.not_not.mp h68
                  have g68 : 41 = 42 := (nI_eq (a := 41) (b := 42) (by omega) (by omega)).mp h68
                  omega
              · exfalso
                have h58 := Decidable.not_not.mp h58
                have g58 : 41 = 45 := (nI_eq (a := 41) (b := 45) (by omega) (by omega)).mp h58
                omega
            · exfalso
              have h48 := Decidable.not_not.mp h48
              have g48 : 41 = 43 := (nI_eq (a := 41) (b := 43) (by omega) (by omega)).mp h48
              omega
        · exfalso
          have h23 := Decidable.not_not.mp h23
          have g23 : 41 = 40 := (nI_eq (a := 41) (b := 40) (by omega) (by omega)).mp h23
          omega
      · exfalso
        have h13 := Decidable.not_not.mp h13
        have g13 : 41 = 61 := (nI_eq (a := 41) (b := 61) (by omega) (by omega)).mp h13
        omega
    · exfalso
      have h3 := Decidable.not_not.mp h3
      have g3 : 41 = 59 := (nI_eq (a := 41) (b := 59) (by omega) (by omega)).mp h3
      omega
  · skip
    refine XG.blk tX9_sign_ok 0 2 (pc' := 3) (pl' := [some (.ref 0), some (.int i), some (.int (nI 43)), some (.int y), none]) (st' := [(.int (nI 59)), (.int (nI 43))]) (W1 := (mW v a b)) (bs := []) rfl rfl rfl ?_
    refine XG.br eX9_sign_3 (P := ¬ (nI 43) = (nI 59)) (r := []) rfl (tgt := 10) (by decide) (fun h3 => ?_) (fun h3 => ?_)
    · skip
      have g3 : ¬ 43 = 59 := (fun z => h3 ((nI_eq (a := 43) (b := 59) (by omega) (by omega)).mpr z))
      refine XG.blk tX9_sign_ok 5 2 (pc' := 13) (pl' := [some (.ref 0), some (.int i), some (.int (nI 43)), some (.int y), none]) (st' := [(.int (nI 61)), (.int (nI 43))]) (W1 := (mW v a b)) (bs := []) rfl rfl rfl ?_
      refine XG.br eX9_sign_13 (P := ¬ (nI 43) = (nI 61)) (r := []) rfl (tgt := 20) (by decide) (fun h13 => ?_) (fun h13 => ?_)
      · skip
        have g13 : ¬ 43 = 61 := (fun z => h13 ((nI_eq (a := 43) (b := 61) (by omega) (by omega)).mpr z))
        refine XG.blk tX9_sign_ok 10 2 (pc' := 23) (pl' := [some (.ref 0), some (.int i), some (.int (nI 43)), some (.int y), none]) (st' := [(.int (nI 40)), (.int (nI 43))]) (W1 := (mW v a b)) (bs := []) rfl rfl rfl ?_
        refine XG.br eX9_sign_23 (P := ¬ (nI 43) = (nI 40)) (r := []) rfl (tgt := 31) (by decide) (fun h23 => ?_) (fun h23 => ?_)
        · skip
          have g23 : ¬ 43 = 40 := (fun z => h23 ((nI_eq (a := 43) (b := 40) (by omega) (by omega)).mpr z))
          refine XG.blk tX9_sign_ok 15 2 (pc' := 34) (pl' := [some (.ref 0), some (.int i), some (.int (nI 43)), some (.int y), none]) (st' := [(.int (nI 41)), (.int (nI 43))]) (W1 := (mW v a b)) (bs := []) rfl rfl rfl ?_
          refine XG.br eX9_sign_34 (P := ¬ (nI 43) = (nI 41)) (r := []) rfl (tgt := 42) (by decide) (fun h34 => ?_) (fun h34 => ?_)
          · skip
            have g34 : ¬ 43 = 41 := (fun z => h34 ((nI_eq (a := 43) (b := 41) (by omega) (by omega)).mpr z))
            refine XG.blk tX9_sign_ok 20 4 (pc' := 48) (pl' := [some (.ref 0), some (.int i), some (.int (nI 43)), some (.int y), some (.int (nI 3))]) (st' := [(.int (nI 43)), (.int (nI 43))]) (W1 := (mW v a b)) (bs := []) rfl rfl rfl ?_
            refine XG.br eX9_sign_48 (P := ¬ (nI 43) = (nI 43)) (r := []) rfl (tgt := 55) (by decide) (fun h48 => ?_) (fun h48 => ?_)
            · exfalso
              have g48 : ¬ 43 = 43 := (fun z => h48 ((nI_eq (a := 43) (b := 43) (by omega) (by omega)).mpr z))
              omega
            · skip
              have h48 := Decidable.not_not.mp h48
              have g48 : 43 = 43 := (nI_eq (a := 43) (b := 43) (by omega) (by omega)).mp h48
              refine XG.blk tX9_sign_ok 25 4 (pc' := 58) (pl' := [some (.ref 0), some (.int i), some (.int (nI 43)), some (.int y), some (.int (nI 8))]) (st' := [(.int (nI 45)), (.int (nI 43))]) (W1 := (mW v a b)) (bs := []) rfl rfl rfl ?_
              refine XG.br eX9_sign_58 (P := ¬ (nI 43) = (nI 45)) (r := []) rfl (tgt := 65) (by decide) (fun h58 => ?_) (fun h58 => ?_)
              · skip
                have g58 : ¬ 43 = 45 := (fun z => h58 ((nI_eq (a := 43) (b := 45) (by omega) (by omega)).mpr z))
                refine XG.blk tX9_sign_ok 32 2 (pc' := 68) (pl' := [some (.ref 0), some (.int i), some (.int (nI 43)), some (.int y), some (.int (nI 8))]) (st' := [(.int (nI 42)), (.int (nI 43))]) (W1 := (mW v a b)) (bs := []) rfl rfl rfl ?_
                refine XG.br eX9_sign_68 (P := ¬ (nI 43) = (nI 42)) (r := []) rfl (tgt := 75) (by decide) (fun h68 => ?_) (fun h68 => ?_)
                · skip
                  have g68 : ¬ 43 = 42 := (fun z => h68 ((nI_eq (a := 43) (b := 42) (by omega) (by omega)).mpr z))
                  refine XG.blk tX9_sign_ok 37 2 (pc' := 78) (pl' := [some (.ref 0), some (.int i), some (.int (nI 43)), some (.int y), some (.int (nI 8))]) (st' := [(.int (nI 47)), (.int (nI 43))]) (W1 := (mW v a b)) (bs := []) rfl rfl rfl ?_
                  refine XG.br eX9_sign_78 (P := ¬ (nI 43) = (nI 47)) (r := []) rfl (tgt := 85) (by decide) (fun h78 => ?_) (fun h78 => ?_)
                  · skip
                    have g78 : ¬ 43 = 47 := (fun z => h78 ((nI_eq (a := 43) (b := 47) (by omega) (by omega)).mpr z))
                    refine XG.blk tX9_sign_ok 42 2 (pc' := 88) (pl' := [some (.ref 0), some (.int i), some (.int (nI 43)), some (.int y), some (.int (nI 8))]) (st' := [(.int (nI 60)), (.int (nI 43))]) (W1 := (mW v a b)) (bs := []) rfl rfl rfl ?_
                    refine XG.br eX9_sign_88 (P := ¬ (nI 43) = (nI 60)) (r := []) rfl (tgt := 95) (by decide) (fun h88 => ?_) (fun h88 => ?_)
                    · skip
                      have g88 : ¬ 43 = 60 := (fun z => h88 ((nI_eq (a := 43) (b := 60) (by omega) (by omega)).mpr z))
                      refine XG.blk tX9_sign_ok 47 5 (pc' := 101) (pl' := [some (.ref 0), some (.int i), some (.int (nI 43)), some (.int y), some (.int (nI 8))]) (st' := [(.long (lN 0)), (.int (nI 0)), (.int i), (.int (nI 8)), (.ref 0)]) (W1 := (mW v a b)) (bs := []) rfl rfl rfl ?_
                      refine XG.callV0 eX9_sign_101 kl_X9_200 (con_token (d - 1) v a b k h10 (by omega) (nI 8) i (nI 0) (lN 0)) (px_fitS (by omega)) rfl rfl rfl (Nat.le_of_ble_eq_true rfl) (fun r9 W9 hp9 hl9 => ?_)
                      obtain ⟨rfl, rfl⟩ := hp9
                      refine XG.blk tX9_sign_ok 53 1 (pc' := 105) (pl' := [some (.ref 0), some (.int i), some (.int (nI 43)), some (.int y), some (.int (nI 8))]) (st' := [(.int (nI 1))]) (W1 := (mW (va_up v 10 (nI (k + 1))) (va_up (va_up (va_up a 5 (upd (a 5) k (nI 8))) 6 (upd (a 6) k i)) 7 (upd (a 7) k (nI 0))) (va_up b 8 (vp_updL (b 8) k (lN 0))))) (bs := []) rfl rfl rfl ?_
                      refine XS.iret eX9_sign_105 rfl rfl ?_
                      exact ⟨rfl, rfl⟩
                    · exfalso
                      have h88 := Decidable.not_not.mp h88
                      have g88 : 43 = 60 := (nI_eq (a := 43) (b := 60) (by omega) (by omega)).mp h88
                      omega
                  · exfalso
                    have h78 := Decidable.not_not.mp h78
                    have g78 : 43 = 47 := (nI_eq (a := 43) (b := 47) (by omega) (by omega)).mp h78
                    omega
                · exfalso
                  have h68 := Decidable.not_not.mp h68
                  have g68 : 43 = 42 := (nI_eq (a := 43) (b := 42) (by omega) (by omega)).mp h68
                  omega
              · exfalso
                have h58 := Decidable.not_not.mp h58
                have g58 : 43 = 45 := (nI_eq (a := 43) (b := 45) (by omega) (by omega)).mp h58
                omega
          · exfalso
            have h34 := Decidable.not_not.mp h34
            have g34 : 43 = 41 := (nI_eq (a := 43) (b := 41) (by omega) (by omega)).mp h34
            omega
        · exfalso
          have h23 := Decidable.not_not.mp h23
          have g23 : 43 = 40 := (nI_eq (a := 43) (b := 40) (by omega) (by omega)).mp h23
          omega
      · exfalso
        have h13 := Decidable.not_not.mp h13
        have g13 : 43 = 61 := (nI_eq (a := 43) (b := 61) (by omega) (by omega)).mp h13
        omega
    · exfalso
      have h3 := Decidable.not_not.mp h3
      have g3 : 43 = 59 := (nI_eq (a := 43) (b := 59) (by omega) (by omega)).mp h3
      omega
  · skip
    refine XG.blk tX9_sign_ok 0 2 (pc' := 3) (pl' := [some (.ref 0), some (.int i), some (.int (nI 45)), some (.int y), none]) (st' := [(.int (nI 59)), (.int (nI 45))]) (W1 := (mW v a b)) (bs := []) rfl rfl rfl ?_
    refine XG.br eX9_sign_3 (P := ¬ (nI 45) = (nI 59)) (r := []) rfl (tgt := 10) (by decide) (fun h3 => ?_) (fun h3 => ?_)
    · skip
      have g3 : ¬ 45 = 59 := (fun z => h3 ((nI_eq (a := 45) (b := 59) (by omega) (by omega)).mpr z))
      refine XG.blk tX9_sign_ok 5 2 (pc' := 13) (pl' := [some (.ref 0), some (.int i), some (.int (nI 45)), some (.int y), none]) (st' := [(.int (nI 61)), (.int (nI 45))]) (W1 := (mW v a b)) (bs := []) rfl rfl rfl ?_
      refine XG.br eX9_sign_13 (P := ¬ (nI 45) = (nI 61)) (r := []) rfl (tgt := 20) (by decide) (fun h13 => ?_) (fun h13 => ?_)
      · skip
        have g13 : ¬ 45 = 61 := (fun z => h13 ((nI_eq (a := 45) (b := 61) (by omega) (by omega)).mpr z))
        refine XG.blk tX9_sign_ok 10 2 (pc' := 23) (pl' := [some (.ref 0), some (.int i), some (.int (nI 45)), some (.int y), none]) (st' := [(.int (nI 40)), (.int (nI 45))]) (W1 := (mW v a b)) (bs := []) rfl rfl rfl ?_
        refine XG.br eX9_sign_23 (P := ¬ (nI 45) = (nI 40)) (r := []) rfl (tgt := 31) (by decide) (fun h23 => ?_) (fun h23 => ?_)
        · skip
          have g23 : ¬ 45 = 40 := (fun z => h23 ((nI_eq (a := 45) (b := 40) (by omega) (by omega)).mpr z))
          refine XG.blk tX9_sign_ok 15 2 (pc' := 34) (pl' := [some (.ref 0), some (.int i), some (.int (nI 45)), some (.int y), none]) (st' := [(.int (nI 41)), (.int (nI 45))]) (W1 := (mW v a b)) (bs := []) rfl rfl rfl ?_
          refine XG.br eX9_sign_34 (P := ¬ (nI 45) = (nI 41)) (r := []) rfl (tgt := 42) (by decide) (fun h34 => ?_) (fun h34 => ?_)
          · skip
            have g34 : ¬ 45 = 41 := (fun z => h34 ((nI_eq (a := 45) (b := 41) (by omega) (by omega)).mpr z))
            refine XG.blk tX9_sign_ok 20 4 (pc' := 48) (pl' := [some (.ref 0), some (.int i), some (.int (nI 45)), some (.int y), some (.int (nI 3))]) (st' := [(.int (nI 43)), (.int (nI 45))]) (W1 := (mW v a b)) (bs := []) rfl rfl rfl ?_
            refine XG.br eX9_sign_48 (P := ¬ (nI 45) = (nI 43)) (r := []) rfl (tgt := 55) (by decide) (fun h48 => ?_) (fun h48 => ?_)
            · skip
              have g48 : ¬ 45 = 43 := (fun z => h48 ((nI_eq (a := 45) (b := 43) (by omega) (by omega)).mpr z))
              refine XG.blk tX9_sign_ok 27 2 (pc' := 58) (pl' := [some (.ref 0), some (.int i), some (.int (nI 45)), some (.int y), some (.int (nI 3))]) (st' := [(.int (nI 45)), (.int (nI 45))]) (W1 := (mW v a b)) (bs := []) rfl rfl rfl ?_
              refine XG.br eX9_sign_58 (P := ¬ (nI 45) = (nI 45)) (r := []) rfl (tgt := 65) (by decide) (fun h58 => ?_) (fun h58 => ?_)
              · exfalso
                have g58 : ¬ 45 = 45 := (fun z => h58 ((nI_eq (a := 45) (b := 45) (by omega) (by omega)).mpr z))
                omega
              · skip
                have h58 := Decidable.not_not.mp h58
                have g58 : 45 = 45 := (nI_eq (a := 45) (b := 45) (by omega) (by omega)).mp h58
                refine XG.blk tX9_sign_ok 30 4 (pc' := 68) (pl' := [some (.ref 0), some (.int i), some (.int (nI 45)), some (.int y), some (.int (nI 9))]) (st' := [(.int (nI 42)), (.int (nI 45))]) (W1 := (mW v a b)) (bs := []) rfl rfl rfl ?_
                refine XG.br eX9_sign_68 (P := ¬ (nI 45) = (nI 42)) (r := []) rfl (tgt := 75) (by decide) (fun h68 => ?_) (fun h68 => ?_)
                · skip
                  have g68 : ¬ 45 = 42 := (fun z => h68 ((nI_eq (a := 45) (b := 42) (by omega) (by omega)).mpr z))
                  refine XG.blk tX9_sign_ok 37 2 (pc' := 78) (pl' := [some (.ref 0), some (.int i), some (.int (nI 45)), some (.int y), some (.int (nI 9))]) (st' := [(.int (nI 47)), (.int (nI 45))]) (W1 := (mW v a b)) (bs := []) rfl rfl rfl ?_
                  refine XG.br eX9_sign_78 (P := ¬ (nI 45) = (nI 47)) (r := []) rfl (tgt := 85) (by decide) (fun h78 => ?_) (fun h78 => ?_)
                  · skip
                    have g78 : ¬ 45 = 47 := (fun z => h78 ((nI_eq (a := 45) (b := 47) (by omega) (by omega)).mpr z))
                    refine XG.blk tX9_sign_ok 42 2 (pc' := 88) (pl' := [some (.ref 0), some (.int i), some (.int (nI 45)), some (.int y), some (.int (nI 9))]) (st' := [(.int (nI 60)), (.int (nI 45))]) (W1 := (mW v a b)) (bs := []) rfl rfl rfl ?_
                    refine XG.br eX9_sign_88 (P := ¬ (nI 45) = (nI 60)) (r := []) rfl (tgt := 95) (by decide) (fun h88 => ?_) (fun h88 => ?_)
                    · skip
                      have g88 : ¬ 45 = 60 := (fun z => h88 ((nI_eq (a := 45) (b := 60) (by omega) (by omega)).mpr z))
                      refine XG.blk tX9_sign_ok 47 5 (pc' := 101) (pl' := [some (.ref 0), some (.int i), some (.int (nI 45)), some (.int y), some (.int (nI 9))]) (st' := [(.long (lN 0)), (.int (nI 0)), (.int i), (.int (nI 9)), (.ref 0)]) (W1 := (mW v a b)) (bs := []) rfl rfl rfl ?_
                      refine XG.callV0 eX9_sign_101 kl_X9_200 (con_token (d - 1) v a b k h10 (by omega) (nI 9) i (nI 0) (lN 0)) (px_fitS (by omega)) rfl rfl rfl (Nat.le_of_ble_eq_true rfl) (fun r9 W9 hp9 hl9 => ?_)
                      obtain ⟨rfl, rfl⟩ := hp9
                      refine XG.blk tX9_sign_ok 53 1 (pc' := 105) (pl' := [some (.ref 0), some (.int i), some (.int (nI 45)), some (.int y), some (.int (nI 9))]) (st' := [(.int (nI 1))]) (W1 := (mW (va_up v 10 (nI (k + 1))) (va_up (va_up (va_up a 5 (upd (a 5) k (nI 9))) 6 (upd (a 6) k i)) 7 (upd (a 7) k (nI 0))) (va_up b 8 (vp_updL (b 8) k (lN 0))))) (bs := []) rfl rfl rfl ?_
                      refine XS.iret eX9_sign_105 rfl rfl ?_
                      exact ⟨rfl, rfl⟩
                    · exfalso
                      have h88 := Decidable.not_not.mp h88
                      have g88 : 45 = 60 := (nI_eq (a := 45) (b := 60) (by omega) (by omega)).mp h88
                      omega
                  · exfalso
                    have h78 := Decidable.not_not.mp h78
                    have g78 : 45 = 47 := (nI_eq (a := 45) (b := 47) (by omega) (by omega)).mp h78
                    omega
                · exfalso
                  have h68 := Decidable.not_not.mp h68
                  have g68 : 45 = 42 := (nI_eq (a := 45) (b := 42) (by omega) (by omega)).mp h68
                  omega
            · exfalso
              have h48 := Decidable.not_not.mp h48
              have g48 : 45 = 43 := (nI_eq (a := 45) (b := 43) (by omega) (by omega)).mp h48
              omega
          · exfalso
            have h34 := Decidable.not_not.mp h34
            have g34 : 45 = 41 := (nI_eq (a := 45) (b := 41) (by omega) (by omega)).mp h34
            omega
        · exfalso
          have h23 := Decidable.not_not.mp h23
          have g23 : 45 = 40 := (nI_eq (a := 45) (b := 40) (by omega) (by omega)).mp h23
          omega
      · exfalso
        have h13 := Decidable.not_not.mp h13
        have g13 : 45 = 61 := (nI_eq (a := 45) (b := 61) (by omega) (by omega)).mp h13
        omega
    · exfalso
      have h3 := Decidable.not_not.mp h3
      have g3 : 45 = 59 := (nI_eq (a := 45) (b := 59) (by omega) (by omega)).mp h3
      omega
  · skip
    refine XG.blk tX9_sign_ok 0 2 (pc' := 3) (pl' := [some (.ref 0), some (.int i), some (.int (nI 42)), some (.int y), none]) (st' := [(.int (nI 59)), (.int (nI 42))]) (W1 := (mW v a b)) (bs := []) rfl rfl rfl ?_
    refine XG.br eX9_sign_3 (P := ¬ (nI 42) = (nI 59)) (r := []) rfl (tgt := 10) (by decide) (fun h3 => ?_) (fun h3 => ?_)
    · skip
      have g3 : ¬ 42 = 59 := (fun z => h3 ((nI_eq (a := 42) (b := 59) (by omega) (by omega)).mpr z))
      refine XG.blk tX9_sign_ok 5 2 (pc' := 13) (pl' := [some (.ref 0), some (.int i), some (.int (nI 42)), some (.int y), none]) (st' := [(.int (nI 61)), (.int (nI 42))]) (W1 := (mW v a b)) (bs := []) rfl rfl rfl ?_
      refine XG.br eX9_sign_13 (P := ¬ (nI 42) = (nI 61)) (r := []) rfl (tgt := 20) (by decide) (fun h13 => ?_) (fun h13 => ?_)
      · skip
        have g13 : ¬ 42 = 61 := (fun z => h13 ((nI_eq (a := 42) (b := 61) (by omega) (by omega)).mpr z))
        refine XG.blk tX9_sign_ok 10 2 (pc' := 23) (pl' := [some (.ref 0), some (.int i), some (.int (nI 42)), some (.int y), none]) (st' := [(.int (nI 40)), (.int (nI 42))]) (W1 := (mW v a b)) (bs := []) rfl rfl rfl ?_
        refine XG.br eX9_sign_23 (P := ¬ (nI 42) = (nI 40)) (r := []) rfl (tgt := 31) (by decide) (fun h23 => ?_) (fun h23 => ?_)
        · skip
          have g23 : ¬ 42 = 40 := (fun z => h23 ((nI_eq (a := 42) (b := 40) (by omega) (by omega)).mpr z))
          refine XG.blk tX9_sign_ok 15 2 (pc' := 34) (pl' := [some (.ref 0), some (.int i), some (.int (nI 42)), some (.int y), none]) (st' := [(.int (nI 41)), (.int (nI 42))]) (W1 := (mW v a b)) (bs := []) rfl rfl rfl ?_
          refine XG.br eX9_sign_34 (P := ¬ (nI 42) = (nI 41)) (r := []) rfl (tgt := 42) (by decide) (fun h34 => ?_) (fun h34 => ?_)
          · skip
            have g34 : ¬ 42 = 41 := (fun z => h34 ((nI_eq (a := 42) (b := 41) (by omega) (by omega)).mpr z))
            refine XG.blk tX9_sign_ok 20 4 (pc' := 48) (pl' := [some (.ref 0), some (.int i), some (.int (nI 42)), some (.int y), some (.int (nI 3))]) (st' := [(.int (nI 43)), (.int (nI 42))]) (W1 := (mW v a b)) (bs := []) rfl rfl rfl ?_
            refine XG.br eX9_sign_48 (P := ¬ (nI 42) = (nI 43)) (r := []) rfl (tgt := 55) (by decide) (fun h48 => ?_) (fun h48 => ?_)
            · skip
              have g48 : ¬ 42 = 43 := (fun z => h48 ((nI_eq (a := 42) (b := 43) (by omega) (by omega)).mpr z))
              refine XG.blk tX9_sign_ok 27 2 (pc' := 58) (pl' := [some (.ref 0), some (.int i), some (.int (nI 42)), some (.int y), some (.int (nI 3))]) (st' := [(.int (nI 45)), (.int (nI 42))]) (W1 := (mW v a b)) (bs := []) rfl rfl rfl ?_
              refine XG.br eX9_sign_58 (P := ¬ (nI 42) = (nI 45)) (r := []) rfl (tgt := 65) (by decide) (fun h58 => ?_) (fun h58 => ?_)
              · skip
                have g58 : ¬ 42 = 45 := (fun z => h58 ((nI_eq (a := 42) (b := 45) (by omega) (by omega)).mpr z))
                refine XG.blk tX9_sign_ok 32 2 (pc' := 68) (pl' := [some (.ref 0), some (.int i), some (.int (nI 42)), some (.int y), some (.int (nI 3))]) (st' := [(.int (nI 42)), (.int (nI 42))]) (W1 := (mW v a b)) (bs := []) rfl rfl rfl ?_
                refine XG.br eX9_sign_68 (P := ¬ (nI 42) = (nI 42)) (r := []) rfl (tgt := 75) (by decide) (fun h68 => ?_) (fun h68 => ?_)
                · exfalso
                  have g68 : ¬ 42 = 42 := (fun z => h68 ((nI_eq (a := 42) (b := 42) (by omega) (by omega)).mpr z))
                  omega
                · skip
                  have h68 := Decidable.not_not.mp h68
                  have g68 : 42 = 42 := (nI_eq (a := 42) (b := 42) (by omega) (by omega)).mp h68
                  refine XG.blk tX9_sign_ok 35 4 (pc' := 78) (pl' := [some (.ref 0), some (.int i), some (.int (nI 42)), some (.int y), some (.int (nI 10))]) (st' := [(.int (nI 47)), (.int (nI 42))]) (W1 := (mW v a b)) (bs := []) rfl rfl rfl ?_
                  refine XG.br eX9_sign_78 (P := ¬ (nI 42) = (nI 47)) (r := []) rfl (tgt := 85) (by decide) (fun h78 => ?_) (fun h78 => ?_)
                  · skip
                    have g78 : ¬ 42 = 47 := (fun z => h78 ((nI_eq (a := 42) (b := 47) (by omega) (by omega)).mpr z))
                    refine XG.blk tX9_sign_ok 42 2 (pc' := 88) (pl' := [some (.ref 0), some (.int i), some (.int (nI 42)), some (.int y), some (.int (nI 10))]) (st' := [(.int (nI 60)), (.int (nI 42))]) (W1 := (mW v a b)) (bs := []) rfl rfl rfl ?_
                    refine XG.br eX9_sign_88 (P := ¬ (nI 42) = (nI 60)) (r := []) rfl (tgt := 95) (by decide) (fun h88 => ?_) (fun h88 => ?_)
                    · skip
                      have g88 : ¬ 42 = 60 := (fun z => h88 ((nI_eq (a := 42) (b := 60) (by omega) (by omega)).mpr z))
                      refine XG.blk tX9_sign_ok 47 5 (pc' := 101) (pl' := [some (.ref 0), some (.int i), some (.int (nI 42)), some (.int y), some (.int (nI 10))]) (st' := [(.long (lN 0)), (.int (nI 0)), (.int i), (.int (nI 10)), (.ref 0)]) (W1 := (mW v a b)) (bs := []) rfl rfl rfl ?_
                      refine XG.callV0 eX9_sign_101 kl_X9_200 (con_token (d - 1) v a b k h10 (by omega) (nI 10) i (nI 0) (lN 0)) (px_fitS (by omega)) rfl rfl rfl (Nat.le_of_ble_eq_true rfl) (fun r9 W9 hp9 hl9 => ?_)
                      obtain ⟨rfl, rfl⟩ := hp9
                      refine XG.blk tX9_sign_ok 53 1 (pc' := 105) (pl' := [some (.ref 0), some (.int i), some (.int (nI 42)), some (.int y), some (.int (nI 10))]) (st' := [(.int (nI 1))]) (W1 := (mW (va_up v 10 (nI (k + 1))) (va_up (va_up (va_up a 5 (upd (a 5) k (nI 10))) 6 (upd (a 6) k i)) 7 (upd (a 7) k (nI 0))) (va_up b 8 (vp_updL (b 8) k (lN 0))))) (bs := []) rfl rfl rfl ?_
                      refine XS.iret eX9_sign_105 rfl rfl ?_
                      exact ⟨rfl, rfl⟩
                    · exfalso
                      have h88 := Decidable.not_not.mp h88
                      have g88 : 42 = 60 := (nI_eq (a := 42) (b := 60) (by omega) (by omega)).mp h88
                      omega
                  · exfalso
                    have h78 := Decidable.not_not.mp h78
                    have g78 : 42 = 47 := (nI_eq (a := 42) (b := 47) (by omega) (by omega)).mp h78
                    omega
              · exfalso
                have h58 := Decidable.not_not.mp h58
                have g58 : 42 = 45 := (nI_eq (a := 42) (b := 45) (by omega) (by omega)).mp h58
                omega
            · exfalso
              have h48 := Decidable.not_not.mp h48
              have g48 : 42 = 43 := (nI_eq (a := 42) (b := 43) (by omega) (by omega)).mp h48
              omega
          · exfalso
            have h34 := Decidable.not_not.mp h34
            have g34 : 42 = 41 := (nI_eq (a := 42) (b := 41) (by omega) (by omega)).mp h34
            omega
        · exfalso
          have h23 := Decidable.not_not.mp h23
          have g23 : 42 = 40 := (nI_eq (a := 42) (b := 40) (by omega) (by omega)).mp h23
          omega
      · exfalso
        have h13 := Decidable.not_not.mp h13
        have g13 : 42 = 61 := (nI_eq (a := 42) (b := 61) (by omega) (by omega)).mp h13
        omega
    · exfalso
      have h3 := Decidable.not_not.mp h3
      have g3 : 42 = 59 := (nI_eq (a := 42) (b := 59) (by omega) (by omega)).mp h3
      omega
  · skip
    refine XG.blk tX9_sign_ok 0 2 (pc' := 3) (pl' := [some (.ref 0), some (.int i), some (.int (nI 47)), some (.int y), none]) (st' := [(.int (nI 59)), (.int (nI 47))]) (W1 := (mW v a b)) (bs := []) rfl rfl rfl ?_
    refine XG.br eX9_sign_3 (P := ¬ (nI 47) = (nI 59)) (r := []) rfl (tgt := 10) (by decide) (fun h3 => ?_) (fun h3 => ?_)
    · skip
      have g3 : ¬ 47 = 59 := (fun z => h3 ((nI_eq (a := 47) (b := 59) (by omega) (by omega)).mpr z))
      refine XG.blk tX9_sign_ok 5 2 (pc' := 13) (pl' := [some (.ref 0), some (.int i), some (.int (nI 47)), some (.int y), none]) (st' := [(.int (nI 61)), (.int (nI 47))]) (W1 := (mW v a b)) (bs := []) rfl rfl rfl ?_
      refine XG.br eX9_sign_13 (P := ¬ (nI 47) = (nI 61)) (r := []) rfl (tgt := 20) (by decide) (fun h13 => ?_) (fun h13 => ?_)
      · skip
        have g13 : ¬ 47 = 61 := (fun z => h13 ((nI_eq (a := 47) (b := 61) (by omega) (by omega)).mpr z))
        refine XG.blk tX9_sign_ok 10 2 (pc' := 23) (pl' := [some (.ref 0), some (.int i), some (.int (nI 47)), some (.int y), none]) (st' := [(.int (nI 40)), (.int (nI 47))]) (W1 := (mW v a b)) (bs := []) rfl rfl rfl ?_
        refine XG.br eX9_sign_23 (P := ¬ (nI 47) = (nI 40)) (r := []) rfl (tgt := 31) (by decide) (fun h23 => ?_) (fun h23 => ?_)
        · skip
          have g23 : ¬ 47 = 40 := (fun z => h23 ((nI_eq (a := 47) (b := 40) (by omega) (by omega)).mpr z))
          refine XG.blk tX9_sign_ok 15 2 (pc' := 34) (pl' := [some (.ref 0), some (.int i), some (.int (nI 47)), some (.int y), none]) (st' := [(.int (nI 41)), (.int (nI 47))]) (W1 := (mW v a b)) (bs := []) rfl rfl rfl ?_
          refine XG.br eX9_sign_34 (P := ¬ (nI 47) = (nI 41)) (r := []) rfl (tgt := 42) (by decide) (fun h34 => ?_) (fun h34 => ?_)
          · skip
            have g34 : ¬ 47 = 41 := (fun z => h34 ((nI_eq (a := 47) (b := 41) (by omega) (by omega)).mpr z))
            refine XG.blk tX9_sign_ok 20 4 (pc' := 48) (pl' := [some (.ref 0), some (.int i), some (.int (nI 47)), some (.int y), some (.int (nI 3))]) (st' := [(.int (nI 43)), (.int (nI 47))]) (W1 := (mW v a b)) (bs := []) rfl rfl rfl ?_
            refine XG.br eX9_sign_48 (P := ¬ (nI 47) = (nI 43)) (r := []) rfl (tgt := 55) (by decide) (fun h48 => ?_) (fun h48 => ?_)
            · skip
              have g48 : ¬ 47 = 43 := (fun z => h48 ((nI_eq (a := 47) (b := 43) (by omega) (by omega)).mpr z))
              refine XG.blk tX9_sign_ok 27 2 (pc' := 58) (pl' := [some (.ref 0), some (.int i), some (.int (nI 47)), some (.int y), some (.int (nI 3))]) (st' := [(.int (nI 45)), (.int (nI 47))]) (W1 := (mW v a b)) (bs := []) rfl rfl rfl ?_
              refine XG.br eX9_sign_58 (P := ¬ (nI 47) = (nI 45)) (r := []) rfl (tgt := 65) (by decide) (fun h58 => ?_) (fun h58 => ?_)
              · skip
                have g58 : ¬ 47 = 45 := (fun z => h58 ((nI_eq (a := 47) (b := 45) (by omega) (by omega)).mpr z))
                refine XG.blk tX9_sign_ok 32 2 (pc' := 68) (pl' := [some (.ref 0), some (.int i), some (.int (nI 47)), some (.int y), some (.int (nI 3))]) (st' := [(.int (nI 42)), (.int (nI 47))]) (W1 := (mW v a b)) (bs := []) rfl rfl rfl ?_
                refine XG.br eX9_sign_68 (P := ¬ (nI 47) = (nI 42)) (r := []) rfl (tgt := 75) (by decide) (fun h68 => ?_) (fun h68 => ?_)
                · skip
                  have g68 : ¬ 47 = 42 := (fun z => h68 ((nI_eq (a := 47) (b := 42) (by omega) (by omega)).mpr z))
                  refine XG.blk tX9_sign_ok 37 2 (pc' := 78) (pl' := [some (.ref 0), some (.int i), some (.int (nI 47)), some (.int y), some (.int (nI 3))]) (st' := [(.int (nI 47)), (.int (nI 47))]) (W1 := (mW v a b)) (bs := []) rfl rfl rfl ?_
                  refine XG.br eX9_sign_78 (P := ¬ (nI 47) = (nI 47)) (r := []) rfl (tgt := 85) (by decide) (fun h78 => ?_) (fun h78 => ?_)
                  · exfalso
                    have g78 : ¬ 47 = 47 := (fun z => h78 ((nI_eq (a := 47) (b := 47) (by omega) (by omega)).mpr z))
                    omega
                  · skip
                    have h78 := Decidable.not_not.mp h78
                    have g78 : 47 = 47 := (nI_eq (a := 47) (b := 47) (by omega) (by omega)).mp h78
                    refine XG.blk tX9_sign_ok 40 4 (pc' := 88) (pl' := [some (.ref 0), some (.int i), some (.int (nI 47)), some (.int y), some (.int (nI 15))]) (st' := [(.int (nI 60)), (.int (nI 47))]) (W1 := (mW v a b)) (bs := []) rfl rfl rfl ?_
                    refine XG.br eX9_sign_88 (P := ¬ (nI 47) = (nI 60)) (r := []) rfl (tgt := 95) (by decide) (fun h88 => ?_) (fun h88 => ?_)
                    · skip
                      have g88 : ¬ 47 = 60 := (fun z => h88 ((nI_eq (a := 47) (b := 60) (by omega) (by omega)).mpr z))
                      refine XG.blk tX9_sign_ok 47 5 (pc' := 101) (pl' := [some (.ref 0), some (.int i), some (.int (nI 47)), some (.int y), some (.int (nI 15))]) (st' := [(.long (lN 0)), (.int (nI 0)), (.int i), (.int (nI 15)), (.ref 0)]) (W1 := (mW v a b)) (bs := []) rfl rfl rfl ?_
                      refine XG.callV0 eX9_sign_101 kl_X9_200 (con_token (d - 1) v a b k h10 (by omega) (nI 15) i (nI 0) (lN 0)) (px_fitS (by omega)) rfl rfl rfl (Nat.le_of_ble_eq_true rfl) (fun r9 W9 hp9 hl9 => ?_)
                      obtain ⟨rfl, rfl⟩ := hp9
                      refine XG.blk tX9_sign_ok 53 1 (pc' := 105) (pl' := [some (.ref 0), some (.int i), some (.int (nI 47)), some (.int y), some (.int (nI 15))]) (st' := [(.int (nI 1))]) (W1 := (mW (va_up v 10 (nI (k + 1))) (va_up (va_up (va_up a 5 (upd (a 5) k (nI 15))) 6 (upd (a 6) k i)) 7 (upd (a 7) k (nI 0))) (va_up b 8 (vp_updL (b 8) k (lN 0))))) (bs := []) rfl rfl rfl ?_
                      refine XS.iret eX9_sign_105 rfl rfl ?_
                      exact ⟨rfl, rfl⟩
                    · exfalso
                      have h88 := Decidable.not_not.mp h88
                      have g88 : 47 = 60 := (nI_eq (a := 47) (b := 60) (by omega) (by omega)).mp h88
                      omega
                · exfalso
                  have h68 := Decidable.not_not.mp h68
                  have g68 : 47 = 42 := (nI_eq (a := 47) (b := 42) (by omega) (by omega)).mp h68
                  omega
              · exfalso
                have h58 := Decidable.not_not.mp h58
                have g58 : 47 = 45 := (nI_eq (a := 47) (b := 45) (by omega) (by omega)).mp h58
                omega
            · exfalso
              have h48 := Decidable.not_not.mp h48
              have g48 : 47 = 43 := (nI_eq (a := 47) (b := 43) (by omega) (by omega)).mp h48
              omega
          · exfalso
            have h34 := Decidable.not_not.mp h34
            have g34 : 47 = 41 := (nI_eq (a := 47) (b := 41) (by omega) (by omega)).mp h34
            omega
        · exfalso
          have h23 := Decidable.not_not.mp h23
          have g23 : 47 = 40 := (nI_eq (a := 47) (b := 40) (by omega) (by omega)).mp h23
          omega
      · exfalso
        have h13 := Decidable.not_not.mp h13
        have g13 : 47 = 61 := (nI_eq (a := 47) (b := 61) (by omega) (by omega)).mp h13
        omega
    · exfalso
      have h3 := Decidable.not_not.mp h3
      have g3 : 47 = 59 := (nI_eq (a := 47) (b := 59) (by omega) (by omega)).mp h3
      omega
  · skip
    refine XG.blk tX9_sign_ok 0 2 (pc' := 3) (pl' := [some (.ref 0), some (.int i), some (.int (nI 60)), some (.int y), none]) (st' := [(.int (nI 59)), (.int (nI 60))]) (W1 := (mW v a b)) (bs := []) rfl rfl rfl ?_
    refine XG.br eX9_sign_3 (P := ¬ (nI 60) = (nI 59)) (r := []) rfl (tgt := 10) (by decide) (fun h3 => ?_) (fun h3 => ?_)
    · skip
      have g3 : ¬ 60 = 59 := (fun z => h3 ((nI_eq (a := 60) (b := 59) (by omega) (by omega)).mpr z))
      refine XG.blk tX9_sign_ok 5 2 (pc' := 13) (pl' := [some (.ref 0), some (.int i), some (.int (nI 60)), some (.int y), none]) (st' := [(.int (nI 61)), (.int (nI 60))]) (W1 := (mW v a b)) (bs := []) rfl rfl rfl ?_
      refine XG.br eX9_sign_13 (P := ¬ (nI 60) = (nI 61)) (r := []) rfl (tgt := 20) (by decide) (fun h13 => ?_) (fun h13 => ?_)
      · skip
        have g13 : ¬ 60 = 61 := (fun z => h13 ((nI_eq (a := 60) (b := 61) (by omega) (by omega)).mpr z))
        refine XG.blk tX9_sign_ok 10 2 (pc' := 23) (pl' := [some (.ref 0), some (.int i), some (.int (nI 60)), some (.int y), none]) (st' := [(.int (nI 40)), (.int (nI 60))]) (W1 := (mW v a b)) (bs := []) rfl rfl rfl ?_
        refine XG.br eX9_sign_23 (P := ¬ (nI 60) = (nI 40)) (r := []) rfl (tgt := 31) (by decide) (fun h23 => ?_) (fun h23 => ?_)
        · skip
          have g23 : ¬ 60 = 40 := (fun z => h23 ((nI_eq (a := 60) (b := 40) (by omega) (by omega)).mpr z))
          refine XG.blk tX9_sign_ok 15 2 (pc' := 34) (pl' := [some (.ref 0), some (.int i), some (.int (nI 60)), some (.int y), none]) (st' := [(.int (nI 41)), (.int (nI 60))]) (W1 := (mW v a b)) (bs := []) rfl rfl rfl ?_
          refine XG.br eX9_sign_34 (P := ¬ (nI 60) = (nI 41)) (r := []) rfl (tgt := 42) (by decide) (fun h34 => ?_) (fun h34 => ?_)
          · skip
            have g34 : ¬ 60 = 41 := (fun z => h34 ((nI_eq (a := 60) (b := 41) (by omega) (by omega)).mpr z))
            refine XG.blk tX9_sign_ok 20 4 (pc' := 48) (pl' := [some (.ref 0), some (.int i), some (.int (nI 60)), some (.int y), some (.int (nI 3))]) (st' := [(.int (nI 43)), (.int (nI 60))]) (W1 := (mW v a b)) (bs := []) rfl rfl rfl ?_
            refine XG.br eX9_sign_48 (P := ¬ (nI 60) = (nI 43)) (r := []) rfl (tgt := 55) (by decide) (fun h48 => ?_) (fun h48 => ?_)
            · skip
              have g48 : ¬ 60 = 43 := (fun z => h48 ((nI_eq (a := 60) (b := 43) (by omega) (by omega)).mpr z))
              refine XG.blk tX9_sign_ok 27 2 (pc' := 58) (pl' := [some (.ref 0), some (.int i), some (.int (nI 60)), some (.int y), some (.int (nI 3))]) (st' := [(.int (nI 45)), (.int (nI 60))]) (W1 := (mW v a b)) (bs := []) rfl rfl rfl ?_
              refine XG.br eX9_sign_58 (P := ¬ (nI 60) = (nI 45)) (r := []) rfl (tgt := 65) (by decide) (fun h58 => ?_) (fun h58 => ?_)
              · skip
                have g58 : ¬ 60 = 45 := (fun z => h58 ((nI_eq (a := 60) (b := 45) (by omega) (by omega)).mpr z))
                refine XG.blk tX9_sign_ok 32 2 (pc' := 68) (pl' := [some (.ref 0), some (.int i), some (.int (nI 60)), some (.int y), some (.int (nI 3))]) (st' := [(.int (nI 42)), (.int (nI 60))]) (W1 := (mW v a b)) (bs := []) rfl rfl rfl ?_
                refine XG.br eX9_sign_68 (P := ¬ (nI 60) = (nI 42)) (r := []) rfl (tgt := 75) (by decide) (fun h68 => ?_) (fun h68 => ?_)
                · skip
                  have g68 : ¬ 60 = 42 := (fun z => h68 ((nI_eq (a := 60) (b := 42) (by omega) (by omega)).mpr z))
                  refine XG.blk tX9_sign_ok 37 2 (pc' := 78) (pl' := [some (.ref 0), some (.int i), some (.int (nI 60)), some (.int y), some (.int (nI 3))]) (st' := [(.int (nI 47)), (.int (nI 60))]) (W1 := (mW v a b)) (bs := []) rfl rfl rfl ?_
                  refine XG.br eX9_sign_78 (P := ¬ (nI 60) = (nI 47)) (r := []) rfl (tgt := 85) (by decide) (fun h78 => ?_) (fun h78 => ?_)
                  · skip
                    have g78 : ¬ 60 = 47 := (fun z => h78 ((nI_eq (a := 60) (b := 47) (by omega) (by omega)).mpr z))
                    refine XG.blk tX9_sign_ok 42 2 (pc' := 88) (pl' := [some (.ref 0), some (.int i), some (.int (nI 60)), some (.int y), some (.int (nI 3))]) (st' := [(.int (nI 60)), (.int (nI 60))]) (W1 := (mW v a b)) (bs := []) rfl rfl rfl ?_
                    refine XG.br eX9_sign_88 (P := ¬ (nI 60) = (nI 60)) (r := []) rfl (tgt := 95) (by decide) (fun h88 => ?_) (fun h88 => ?_)
                    · exfalso
                      have g88 : ¬ 60 = 60 := (fun z => h88 ((nI_eq (a := 60) (b := 60) (by omega) (by omega)).mpr z))
                      omega
                    · skip
                      have h88 := Decidable.not_not.mp h88
                      have g88 : 60 = 60 := (nI_eq (a := 60) (b := 60) (by omega) (by omega)).mp h88
                      refine XG.blk tX9_sign_ok 45 7 (pc' := 101) (pl' := [some (.ref 0), some (.int i), some (.int (nI 60)), some (.int y), some (.int (nI 13))]) (st' := [(.long (lN 0)), (.int (nI 0)), (.int i), (.int (nI 13)), (.ref 0)]) (W1 := (mW v a b)) (bs := []) rfl rfl rfl ?_
                      refine XG.callV0 eX9_sign_101 kl_X9_200 (con_token (d - 1) v a b k h10 (by omega) (nI 13) i (nI 0) (lN 0)) (px_fitS (by omega)) rfl rfl rfl (Nat.le_of_ble_eq_true rfl) (fun r9 W9 hp9 hl9 => ?_)
                      obtain ⟨rfl, rfl⟩ := hp9
                      refine XG.blk tX9_sign_ok 53 1 (pc' := 105) (pl' := [some (.ref 0), some (.int i), some (.int (nI 60)), some (.int y), some (.int (nI 13))]) (st' := [(.int (nI 1))]) (W1 := (mW (va_up v 10 (nI (k + 1))) (va_up (va_up (va_up a 5 (upd (a 5) k (nI 13))) 6 (upd (a 6) k i)) 7 (upd (a 7) k (nI 0))) (va_up b 8 (vp_updL (b 8) k (lN 0))))) (bs := []) rfl rfl rfl ?_
                      refine XS.iret eX9_sign_105 rfl rfl ?_
                      exact ⟨rfl, rfl⟩
                  · exfalso
                    have h78 := Decidable.not_not.mp h78
                    have g78 : 60 = 47 := (nI_eq (a := 60) (b := 47) (by omega) (by omega)).mp h78
                    omega
                · exfalso
                  have h68 := Decidable.not_not.mp h68
                  have g68 : 60 = 42 := (nI_eq (a := 60) (b := 42) (by omega) (by omega)).mp h68
                  omega
              · exfalso
                have h58 := Decidable.not_not.mp h58
                have g58 : 60 = 45 := (nI_eq (a := 60) (b := 45) (by omega) (by omega)).mp h58
                omega
            · exfalso
              have h48 := Decidable.not_not.mp h48
              have g48 : 60 = 43 := (nI_eq (a := 60) (b := 43) (by omega) (by omega)).mp h48
              omega
          · exfalso
            have h34 := Decidable.not_not.mp h34
            have g34 : 60 = 41 := (nI_eq (a := 60) (b := 41) (by omega) (by omega)).mp h34
            omega
        · exfalso
          have h23 := Decidable.not_not.mp h23
          have g23 : 60 = 40 := (nI_eq (a := 60) (b := 40) (by omega) (by omega)).mp h23
          omega
      · exfalso
        have h13 := Decidable.not_not.mp h13
        have g13 : 60 = 61 := (nI_eq (a := 60) (b := 61) (by omega) (by omega)).mp h13
        omega
    · exfalso
      have h3 := Decidable.not_not.mp h3
      have g3 : 60 = 59 := (nI_eq (a := 60) (b := 59) (by omega) (by omega)).mp h3
      omega
  · skip
    refine XG.blk tX9_sign_ok 0 2 (pc' := 3) (pl' := [some (.ref 0), some (.int i), some (.int (nI x)), some (.int y), none]) (st' := [(.int (nI 59)), (.int (nI x))]) (W1 := (mW v a b)) (bs := []) rfl rfl rfl ?_
    refine XG.br eX9_sign_3 (P := ¬ (nI x) = (nI 59)) (r := []) rfl (tgt := 10) (by decide) (fun h3 => ?_) (fun h3 => ?_)
    · skip
      have g3 : ¬ x = 59 := (fun z => h3 ((nI_eq (a := x) (b := 59) (by omega) (by omega)).mpr z))
      refine XG.blk tX9_sign_ok 5 2 (pc' := 13) (pl' := [some (.ref 0), some (.int i), some (.int (nI x)), some (.int y), none]) (st' := [(.int (nI 61)), (.int (nI x))]) (W1 := (mW v a b)) (bs := []) rfl rfl rfl ?_
      refine XG.br eX9_sign_13 (P := ¬ (nI x) = (nI 61)) (r := []) rfl (tgt := 20) (by decide) (fun h13 => ?_) (fun h13 => ?_)
      · skip
        have g13 : ¬ x = 61 := (fun z => h13 ((nI_eq (a := x) (b := 61) (by omega) (by omega)).mpr z))
        refine XG.blk tX9_sign_ok 10 2 (pc' := 23) (pl' := [some (.ref 0), some (.int i), some (.int (nI x)), some (.int y), none]) (st' := [(.int (nI 40)), (.int (nI x))]) (W1 := (mW v a b)) (bs := []) rfl rfl rfl ?_
        refine XG.br eX9_sign_23 (P := ¬ (nI x) = (nI 40)) (r := []) rfl (tgt := 31) (by decide) (fun h23 => ?_) (fun h23 => ?_)
        · skip
          have g23 : ¬ x = 40 := (fun z => h23 ((nI_eq (a := x) (b := 40) (by omega) (by omega)).mpr z))
          refine XG.blk tX9_sign_ok 15 2 (pc' := 34) (pl' := [some (.ref 0), some (.int i), some (.int (nI x)), some (.int y), none]) (st' := [(.int (nI 41)), (.int (nI x))]) (W1 := (mW v a b)) (bs := []) rfl rfl rfl ?_
          refine XG.br eX9_sign_34 (P := ¬ (nI x) = (nI 41)) (r := []) rfl (tgt := 42) (by decide) (fun h34 => ?_) (fun h34 => ?_)
          · skip
            have g34 : ¬ x = 41 := (fun z => h34 ((nI_eq (a := x) (b := 41) (by omega) (by omega)).mpr z))
            refine XG.blk tX9_sign_ok 20 4 (pc' := 48) (pl' := [some (.ref 0), some (.int i), some (.int (nI x)), some (.int y), some (.int (nI 3))]) (st' := [(.int (nI 43)), (.int (nI x))]) (W1 := (mW v a b)) (bs := []) rfl rfl rfl ?_
            refine XG.br eX9_sign_48 (P := ¬ (nI x) = (nI 43)) (r := []) rfl (tgt := 55) (by decide) (fun h48 => ?_) (fun h48 => ?_)
            · skip
              have g48 : ¬ x = 43 := (fun z => h48 ((nI_eq (a := x) (b := 43) (by omega) (by omega)).mpr z))
              refine XG.blk tX9_sign_ok 27 2 (pc' := 58) (pl' := [some (.ref 0), some (.int i), some (.int (nI x)), some (.int y), some (.int (nI 3))]) (st' := [(.int (nI 45)), (.int (nI x))]) (W1 := (mW v a b)) (bs := []) rfl rfl rfl ?_
              refine XG.br eX9_sign_58 (P := ¬ (nI x) = (nI 45)) (r := []) rfl (tgt := 65) (by decide) (fun h58 => ?_) (fun h58 => ?_)
              · skip
                have g58 : ¬ x = 45 := (fun z => h58 ((nI_eq (a := x) (b := 45) (by omega) (by omega)).mpr z))
                refine XG.blk tX9_sign_ok 32 2 (pc' := 68) (pl' := [some (.ref 0), some (.int i), some (.int (nI x)), some (.int y), some (.int (nI 3))]) (st' := [(.int (nI 42)), (.int (nI x))]) (W1 := (mW v a b)) (bs := []) rfl rfl rfl ?_
                refine XG.br eX9_sign_68 (P := ¬ (nI x) = (nI 42)) (r := []) rfl (tgt := 75) (by decide) (fun h68 => ?_) (fun h68 => ?_)
                · skip
                  have g68 : ¬ x = 42 := (fun z => h68 ((nI_eq (a := x) (b := 42) (by omega) (by omega)).mpr z))
                  refine XG.blk tX9_sign_ok 37 2 (pc' := 78) (pl' := [some (.ref 0), some (.int i), some (.int (nI x)), some (.int y), some (.int (nI 3))]) (st' := [(.int (nI 47)), (.int (nI x))]) (W1 := (mW v a b)) (bs := []) rfl rfl rfl ?_
                  refine XG.br eX9_sign_78 (P := ¬ (nI x) = (nI 47)) (r := []) rfl (tgt := 85) (by decide) (fun h78 => ?_) (fun h78 => ?_)
                  · skip
                    have g78 : ¬ x = 47 := (fun z => h78 ((nI_eq (a := x) (b := 47) (by omega) (by omega)).mpr z))
                    refine XG.blk tX9_sign_ok 42 2 (pc' := 88) (pl' := [some (.ref 0), some (.int i), some (.int (nI x)), some (.int y), some (.int (nI 3))]) (st' := [(.int (nI 60)), (.int (nI x))]) (W1 := (mW v a b)) (bs := []) rfl rfl rfl ?_
                    refine XG.br eX9_sign_88 (P := ¬ (nI x) = (nI 60)) (r := []) rfl (tgt := 95) (by decide) (fun h88 => ?_) (fun h88 => ?_)
                    · skip
                      have g88 : ¬ x = 60 := (fun z => h88 ((nI_eq (a := x) (b := 60) (by omega) (by omega)).mpr z))
                      refine XG.blk tX9_sign_ok 47 5 (pc' := 101) (pl' := [some (.ref 0), some (.int i), some (.int (nI x)), some (.int y), some (.int (nI 3))]) (st' := [(.long (lN 0)), (.int (nI 0)), (.int i), (.int (nI 3)), (.ref 0)]) (W1 := (mW v a b)) (bs := []) rfl rfl rfl ?_
                      refine XG.callV0 eX9_sign_101 kl_X9_200 (con_token (d - 1) v a b k h10 (by omega) (nI 3) i (nI 0) (lN 0)) (px_fitS (by omega)) rfl rfl rfl (Nat.le_of_ble_eq_true rfl) (fun r9 W9 hp9 hl9 => ?_)
                      obtain ⟨rfl, rfl⟩ := hp9
                      refine XG.blk tX9_sign_ok 53 1 (pc' := 105) (pl' := [some (.ref 0), some (.int i), some (.int (nI x)), some (.int y), some (.int (nI 3))]) (st' := [(.int (nI 1))]) (W1 := (mW (va_up v 10 (nI (k + 1))) (va_up (va_up (va_up a 5 (upd (a 5) k (nI 3))) 6 (upd (a 6) k i)) 7 (upd (a 7) k (nI 0))) (va_up b 8 (vp_updL (b 8) k (lN 0))))) (bs := []) rfl rfl rfl ?_
                      refine XS.iret eX9_sign_105 rfl rfl ?_
                      have e9 : sgnK x = 3 := by unfold sgnK; rw [if_neg (by omega), if_neg (by omega), if_neg (by omega), if_neg (by omega), if_neg (by omega), if_neg (by omega), if_neg (by omega), if_neg (by omega), if_neg (by omega)]
                      rw [e9]
                      exact ⟨rfl, rfl⟩
                    · exfalso
                      have h88 := Decidable.not_not.mp h88
                      have g88 : x = 60 := (nI_eq (a := x) (b := 60) (by omega) (by omega)).mp h88
                      omega
                  · exfalso
                    have h78 := Decidable.not_not.mp h78
                    have g78 : x = 47 := (nI_eq (a := x) (b := 47) (by omega) (by omega)).mp h78
                    omega
                · exfalso
                  have h68 := Decidable.not_not.mp h68
                  have g68 : x = 42 := (nI_eq (a := x) (b := 42) (by omega) (by omega)).mp h68
                  omega
              · exfalso
                have h58 := Decidable.not_not.mp h58
                have g58 : x = 45 := (nI_eq (a := x) (b := 45) (by omega) (by omega)).mp h58
                omega
            · exfalso
              have h48 := Decidable.not_not.mp h48
              have g48 : x = 43 := (nI_eq (a := x) (b := 43) (by omega) (by omega)).mp h48
              omega
          · exfalso
            have h34 := Decidable.not_not.mp h34
            have g34 : x = 41 := (nI_eq (a := x) (b := 41) (by omega) (by omega)).mp h34
            omega
        · exfalso
          have h23 := Decidable.not_not.mp h23
          have g23 : x = 40 := (nI_eq (a := x) (b := 40) (by omega) (by omega)).mp h23
          omega
      · exfalso
        have h13 := Decidable.not_not.mp h13
        have g13 : x = 61 := (nI_eq (a := x) (b := 61) (by omega) (by omega)).mp h13
        omega
    · exfalso
      have h3 := Decidable.not_not.mp h3
      have g3 : x = 59 := (nI_eq (a := x) (b := 59) (by omega) (by omega)).mp h3
      omega
