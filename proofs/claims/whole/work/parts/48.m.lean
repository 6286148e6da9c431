/-! the reference: what changes the night, and what undoes it -/
/-- the history moved down by a row, as far as i -/
def shF (h : Nat → Int32) (i : Nat) : Nat → Int32 := fun j => if j < i then h (j + 32) else h j
theorem shF_0 (h : Nat → Int32) : shF h 0 = h := by funext j; unfold shF; rw [if_neg (Nat.not_lt_zero j)]
theorem shF_s (h : Nat → Int32) (i : Nat) : upd (shF h i) i (shF h i (i + 32)) = shF h (i + 1) := by
  funext j; simp only [shF, upd]
  by_cases e : j = i
  · subst e; rw [if_pos rfl, if_neg (by omega), if_pos (Nat.lt_succ_self j)]
  · rw [if_neg e]
    by_cases h2 : j < i
    · rw [if_pos h2, if_pos (by omega)]
    · rw [if_neg h2, if_neg (by omega)]
/-- f from o on holds i of g -/
def plF (f g : Nat → Int32) (q i : Nat) : Nat → Int32 := fun j => if q ≤ j ∧ j < q + i then g (j - q) else f j
theorem plF_0 (f g : Nat → Int32) (q : Nat) : plF f g q 0 = f := by funext j; unfold plF; rw [if_neg (by omega)]
theorem plF_s (f g : Nat → Int32) (q i : Nat) : upd (plF f g q i) (q + i) (g i) = plF f g q (i + 1) := by
  funext j; simp only [plF, upd]
  by_cases e : j = q + i
  · subst e; rw [if_pos rfl, if_pos (by omega), show q + i - q = i by omega]
  · rw [if_neg e]
    by_cases h2 : q ≤ j ∧ j < q + i
    · rw [if_pos h2, if_pos (by omega)]
    · rw [if_neg h2, if_neg (by omega)]
def kU (u : Nat) : Nat := if u = 40 then 39 else u
def kH (h : Nat → Int32) (u : Nat) (now : Nat → Int32) : Nat → Int32 := plF (if u = 40 then shF h 1248 else h) now (32 * kU u) 32
set_option maxHeartbeats 400000 in
theorem con_keeps (d : Nat) (v : Nat → Int32) (a : Nat → Nat → Int32) (b : Nat → Nat → Int64) (u : Nat) (hu : v 61 = nI u) (hu2 : u ≤ 40) (hd : 1 ≤ d) : Con mX9_keeps d [.ref 0] (mW v a b) (fun r W' => W' = mW (va_up v 61 (nI (kU u + 1))) (va_up (va_up a 62 (kH (a 62) u (a 54))) 54 (a 55)) b ∧ r = none) := by
  refine Con.of (by decide) (Nat.le_of_ble_eq_true rfl) ?_
  by_cases h40 : u = 40
  · subst h40
    simp only [show kU 40 = 39 from rfl, kH, if_true]
    have q1 : (v 61) = (nI 40) := hu
    refine XG.blk tX9_keeps_ok 0 3 (pc' := 6) (pl' := [some (.ref 0), none]) (st' := [(.int (nI 40)), (.int (v 61))]) (W1 := (mW v a b)) (bs := []) rfl rfl rfl ?_
    simp only [q1]
    refine XG.br eX9_keeps_6 (P := ¬ (nI 40) = (nI 40)) (r := []) rfl (tgt := 49) (by decide) (fun h6 => ?_) (fun h6 => ?_)
    · exfalso
      have g6 : ¬ 40 = 40 := (fun z => h6 ((nI_eq (a := 40) (b := 40) (by omega) (by omega)).mpr z))
      omega
    · skip
      have h6 := Decidable.not_not.mp h6
      have g6 : 40 = 40 := (nI_eq (a := 40) (b := 40) (by omega) (by omega)).mp h6
      refine XG.blk tX9_keeps_ok 4 2 (pc' := 11) (pl' := [some (.ref 0), some (.int (nI 0))]) (st' := []) (W1 := (mW v a b)) (bs := []) rfl rfl rfl ?_
      rw [show mW v a b = mW v (va_up a 62 (shF (a 62) 0)) b by rw [shF_0, va_up_id]]
      refine px_for 1248 (fun i => XG mX9_keeps _ 0 0 11 [some (.ref 0), some (.int (nI i))] [] (mW v (va_up a 62 (shF (a 62) i)) b)) ?_ ?_ 0 (by omega)
      · skip
        refine XG.blk tX9_keeps_ok 6 2 (pc' := 15) (pl' := [some (.ref 0), some (.int (nI 1248))]) (st' := [(.int (nI 1248)), (.int (nI 1248))]) (W1 := (mW v (va_up a 62 (shF (a 62) 1248)) b)) (bs := []) rfl rfl rfl ?_
        refine XG.br eX9_keeps_15 (P := (nI 1248) ≤ (nI 1248)) (r := []) rfl (tgt := 39) (by decide) (fun h15 => ?_) (fun h15 => ?_)
        · skip
          have g15 : 1248 ≤ 1248 := (nI_leI (a := 1248) (b := 1248) (by omega) (by omega)).mp h15
          have q2 : (v 61) = (nI 40) := hu
          have q3 : ((nI 40) - (nI 1)) = (nI (40 - 1)) := px_esub rfl rfl (by omega)
          refine XG.blk tX9_keeps_ok 21 8 (pc' := 51) (pl' := [some (.ref 0), some (.int (nI 0))]) (st' := []) (W1 := (mW (va_up v 61 ((v 61) - (nI 1))) (va_up a 62 (shF (a 62) 1248)) b)) (bs := []) rfl rfl rfl ?_
          simp only [q2, q3]
          rw [show (mW (va_up v 61 (nI 39)) (va_up a 62 (shF (a 62) 1248)) b) = (mW (va_up v 61 (nI 39)) (va_up a 62 (plF (shF (a 62) 1248) (a 54) (32 * 39) 0)) b) by rw [plF_0]]
          refine px_for 32 (fun i => XG mX9_keeps _ 0 0 51 [some (.ref 0), some (.int (nI i))] [] (mW (va_up v 61 (nI 39)) (va_up a 62 (plF (shF (a 62) 1248) (a 54) (32 * 39) i)) b)) ?_ ?_ 0 (by omega)
          · skip
            refine XG.blk tX9_keeps_ok 29 2 (pc' := 54) (pl' := [some (.ref 0), some (.int (nI 32))]) (st' := [(.int (nI 32)), (.int (nI 32))]) (W1 := (mW (va_up v 61 (nI 39)) (va_up a 62 (plF (shF (a 62) 1248) (a 54) (32 * 39) 32)) b)) (bs := []) rfl rfl rfl ?_
            refine XG.br eX9_keeps_54 (P := (nI 32) ≤ (nI 32)) (r := []) rfl (tgt := 83) (by decide) (fun h54 => ?_) (fun h54 => ?_)
            · skip
              have g54 : 32 ≤ 32 := (nI_leI (a := 32) (b := 32) (by omega) (by omega)).mp h54
              have q4 : ((nI 39) + (nI 1)) = (nI (39 + 1)) := px_eadd rfl rfl
              refine XG.blk tX9_keeps_ok 47 7 (pc' := 94) (pl' := [some (.ref 0), some (.int (nI 32))]) (st' := [(.ref 0)]) (W1 := (mW (va_up v 61 ((nI 39) + (nI 1))) (va_up a 62 (plF (shF (a 62) 1248) (a 54) (32 * 39) 32)) b)) (bs := []) rfl rfl rfl ?_
              simp only [q4]
              refine XG.callV0 eX9_keeps_94 kl_X9_175 (con_keepsRow' (d - 1) (va_up v 61 (nI (39 + 1))) (va_up a 62 (plF (shF (a 62) 1248) (a 54) (32 * 39) 32)) b) (px_fitS (by omega)) rfl rfl rfl (Nat.le_of_ble_eq_true rfl) (fun r9 W9 hp9 hl9 => ?_)
              obtain ⟨rfl, rfl⟩ := hp9
              refine XS.vret eX9_keeps_97 rfl ?_
              exact ⟨rfl, rfl⟩
            · exfalso
              have g54 : ¬ 32 ≤ 32 := (fun z => h54 ((nI_leI (a := 32) (b := 32) (by omega) (by omega)).mpr z))
              omega
          · intro i hi ihi
            refine XG.blk tX9_keeps_ok 29 2 (pc' := 54) (pl' := [some (.ref 0), some (.int (nI i))]) (st' := [(.int (nI 32)), (.int (nI i))]) (W1 := (mW (va_up v 61 (nI 39)) (va_up a 62 (plF (shF (a 62) 1248) (a 54) (32 * 39) i)) b)) (bs := []) rfl rfl rfl ?_
            refine XG.br eX9_keeps_54 (P := (nI 32) ≤ (nI i)) (r := []) rfl (tgt := 83) (by decide) (fun h54 => ?_) (fun h54 => ?_)
            · exfalso
              have g54 : 32 ≤ i := (nI_leI (a := 32) (b := i) (by omega) (by omega)).mp h54
              omega
            · skip
              have g54 : ¬ 32 ≤ i := (fun z => h54 ((nI_leI (a := 32) (b := i) (by omega) (by omega)).mpr z))
              have q5 : ((nI 32) * (nI 39)) = (nI (32 * 39)) := px_emul rfl rfl
              have q6 : ((nI (32 * 39)) + (nI i)) = (nI ((32 * 39) + i)) := px_eadd rfl rfl
              have q7 : (nI i).toNatClampNeg = i := nI_clamp (by omega)
              have q8 : (nI ((32 * 39) + i)).toNatClampNeg = ((32 * 39) + i) := nI_clamp (by omega)
              have q9 : ((nI i) + (nI 1)) = (nI (i + 1)) := px_eadd rfl rfl
              refine XG.blk tX9_keeps_ok 32 14 (pc' := 80) (pl' := [some (.ref 0), some (.int ((nI i) + (nI 1)))]) (st' := []) (W1 := (mW (va_up v 61 (nI 39)) (va_up a 62 (upd (plF (shF (a 62) 1248) (a 54) (32 * 39) i) (((nI 32) * (nI 39)) + (nI i)).toNatClampNeg ((a 54) (nI i).toNatClampNeg))) b)) (bs := [px_vb (nI i) 32, px_vb (((nI 32) * (nI 39)) + (nI i)) 1280]) rfl rfl (by (try simp only [q5, q6, q7, q8, q9]); exact (px_all (px_vbN (by omega) (by decide)) (px_all (px_vbN (by omega) (by decide)) rfl))) ?_
              simp only [q5, q6, q7, q8, q9]
              refine XG.goto eX9_keeps_80 (tgt := 51) (by decide) ?_
              rw [plF_s]; exact ihi
        · exfalso
          have g15 : ¬ 1248 ≤ 1248 := (fun z => h15 ((nI_leI (a := 1248) (b := 1248) (by omega) (by omega)).mpr z))
          omega
      · intro i hi ihi
        refine XG.blk tX9_keeps_ok 6 2 (pc' := 15) (pl' := [some (.ref 0), some (.int (nI i))]) (st' := [(.int (nI 1248)), (.int (nI i))]) (W1 := (mW v (va_up a 62 (shF (a 62) i)) b)) (bs := []) rfl rfl rfl ?_
        refine XG.br eX9_keeps_15 (P := (nI 1248) ≤ (nI i)) (r := []) rfl (tgt := 39) (by decide) (fun h15 => ?_) (fun h15 => ?_)
        · exfalso
          have g15 : 1248 ≤ i := (nI_leI (a := 1248) (b := i) (by omega) (by omega)).mp h15
          omega
        · skip
          have g15 : ¬ 1248 ≤ i := (fun z => h15 ((nI_leI (a := 1248) (b := i) (by omega) (by omega)).mpr z))
          have q10 : ((nI i) + (nI 32)) = (nI (i + 32)) := px_eadd rfl rfl
          have q11 : (nI (i + 32)).toNatClampNeg = (i + 32) := nI_clamp (by omega)
          have q12 : (nI i).toNatClampNeg = i := nI_clamp (by omega)
          have q13 : ((nI i) + (nI 1)) = (nI (i + 1)) := px_eadd rfl rfl
          refine XG.blk tX9_keeps_ok 9 11 (pc' := 36) (pl' := [some (.ref 0), some (.int ((nI i) + (nI 1)))]) (st' := []) (W1 := (mW v (va_up a 62 (upd (shF (a 62) i) (nI i).toNatClampNeg ((shF (a 62) i) ((nI i) + (nI 32)).toNatClampNeg))) b)) (bs := [px_vb ((nI i) + (nI 32)) 1280, px_vb (nI i) 1280]) rfl rfl (by (try simp only [q10, q11, q12, q13]); exact (px_all (px_vbN (by omega) (by decide)) (px_all (px_vbN (by omega) (by decide)) rfl))) ?_
          simp only [q10, q11, q12, q13]
          refine XG.goto eX9_keeps_36 (tgt := 11) (by decide) ?_
          rw [shF_s]; exact ihi
  · simp only [kU, kH, if_neg h40]
    have q1 : (v 61) = (nI u) := hu
    refine XG.blk tX9_keeps_ok 0 3 (pc' := 6) (pl' := [some (.ref 0), none]) (st' := [(.int (nI 40)), (.int (v 61))]) (W1 := (mW v a b)) (bs := []) rfl rfl rfl ?_
    simp only [q1]
    refine XG.br eX9_keeps_6 (P := ¬ (nI u) = (nI 40)) (r := []) rfl (tgt := 49) (by decide) (fun h6 => ?_) (fun h6 => ?_)
    · skip
      have g6 : ¬ u = 40 := (fun z => h6 ((nI_eq (a := u) (b := 40) (by omega) (by omega)).mpr z))
      refine XG.blk tX9_keeps_ok 27 2 (pc' := 51) (pl' := [some (.ref 0), some (.int (nI 0))]) (st' := []) (W1 := (mW v a b)) (bs := []) rfl rfl rfl ?_
      rw [show (mW v a b) = (mW v (va_up a 62 (plF (a 62) (a 54) (32 * u) 0)) b) by rw [plF_0, va_up_id]]
      refine px_for 32 (fun i => XG mX9_keeps _ 0 0 51 [some (.ref 0), some (.int (nI i))] [] (mW v (va_up a 62 (plF (a 62) (a 54) (32 * u) i)) b)) ?_ ?_ 0 (by omega)
      · skip
        refine XG.blk tX9_keeps_ok 29 2 (pc' := 54) (pl' := [some (.ref 0), some (.int (nI 32))]) (st' := [(.int (nI 32)), (.int (nI 32))]) (W1 := (mW v (va_up a 62 (plF (a 62) (a 54) (32 * u) 32)) b)) (bs := []) rfl rfl rfl ?_
        refine XG.br eX9_keeps_54 (P := (nI 32) ≤ (nI 32)) (r := []) rfl (tgt := 83) (by decide) (fun h54 => ?_) (fun h54 => ?_)
        · skip
          have g54 : 32 ≤ 32 := (nI_leI (a := 32) (b := 32) (by omega) (by omega)).mp h54
          have q2 : (v 61) = (nI u) := hu
          have q3 : ((nI u) + (nI 1)) = (nI (u + 1)) := px_eadd rfl rfl
          refine XG.blk tX9_keeps_ok 47 7 (pc' := 94) (pl' := [some (.ref 0), some (.int (nI 32))]) (st' := [(.ref 0)]) (W1 := (mW (va_up v 61 ((v 61) + (nI 1))) (va_up a 62 (plF (a 62) (a 54) (32 * u) 32)) b)) (bs := []) rfl rfl rfl ?_
          simp only [q2, q3]
          refine XG.callV0 eX9_keeps_94 kl_X9_175 (con_keepsRow' (d - 1) (va_up v 61 (nI (u + 1))) (va_up a 62 (plF (a 62) (a 54) (32 * u) 32)) b) (px_fitS (by omega)) rfl rfl rfl (Nat.le_of_ble_eq_true rfl) (fun r9 W9 hp9 hl9 => ?_)
          obtain ⟨rfl, rfl⟩ := hp9
          refine XS.vret eX9_keeps_97 rfl ?_
          exact ⟨rfl, rfl⟩
        · exfalso
          have g54 : ¬ 32 ≤ 32 := (fun z => h54 ((nI_leI (a := 32) (b := 32) (by omega) (by omega)).mpr z))
          omega
      · intro i hi ihi
        refine XG.blk tX9_keeps_ok 29 2 (pc' := 54) (pl' := [some (.ref 0), some (.int (nI i))]) (st' := [(.int (nI 32)), (.int (nI i))]) (W1 := (mW v (va_up a 62 (plF (a 62) (a 54) (32 * u) i)) b)) (bs := []) rfl rfl rfl ?_
        refine XG.br eX9_keeps_54 (P := (nI 32) ≤ (nI i)) (r := []) rfl (tgt := 83) (by decide) (fun h54 => ?_) (fun h54 => ?_)
        · exfalso
          have g54 : 32 ≤ i := (nI_leI (a := 32) (b := i) (by omega) (by omega)).mp h54
          omega
        · skip
          have g54 : ¬ 32 ≤ i := (fun z => h54 ((nI_leI (a := 32) (b := i) (by omega) (by omega)).mpr z))
          have q4 : (v 61) = (nI u) := hu
          have q5 : ((nI 32) * (nI u)) = (nI (32 * u)) := px_emul rfl rfl
          have q6 : ((nI (32 * u)) + (nI i)) = (nI ((32 * u) + i)) := px_eadd rfl rfl
          have q7 : (nI i).toNatClampNeg = i := nI_clamp (by omega)
          have q8 : (nI ((32 * u) + i)).toNatClampNeg = ((32 * u) + i) := nI_clamp (by omega)
          have q9 : ((nI i) + (nI 1)) = (nI (i + 1)) := px_eadd rfl rfl
          refine XG.blk tX9_keeps_ok 32 14 (pc' := 80) (pl' := [some (.ref 0), some (.int ((nI i) + (nI 1)))]) (st' := []) (W1 := (mW v (va_up a 62 (upd (plF (a 62) (a 54) (32 * u) i) (((nI 32) * (v 61)) + (nI i)).toNatClampNeg ((a 54) (nI i).toNatClampNeg))) b)) (bs := [px_vb (nI i) 32, px_vb (((nI 32) * (v 61)) + (nI i)) 1280]) rfl rfl (by (try simp only [q4, q5, q6, q7, q8, q9]); exact (px_all (px_vbN (by omega) (by decide)) (px_all (px_vbN (by omega) (by decide)) rfl))) ?_
          simp only [q4, q5, q6, q7, q8, q9]
          refine XG.goto eX9_keeps_80 (tgt := 51) (by decide) ?_
          rw [plF_s]; exact ihi
    · exfalso
      have h6 := Decidable.not_not.mp h6
      have g6 : u = 40 := (nI_eq (a := u) (b := 40) (by omega) (by omega)).mp h6
      omega
