/-! the reference: feed, count, begins -/
theorem nI_p1 (t i j : Nat) (h : i + 1 = j) : nI (t + i) + nI 1 = nI (t + j) := by rw [nI_add, Nat.add_assoc, h]
def byt (x : Int32) (k : Nat) : Int32 := vp_nar .byte ((x >>> (nI k &&& 31)).toInt8.toInt32)
def pu4 (f : Nat → Int32) (t : Nat) (x : Int32) : Nat → Int32 := upd (upd (upd (upd f t (byt x 24)) (t + 1) (byt x 16)) (t + 2) (byt x 8)) (t + 3) (byt x 0)
theorem va_upup {α : Type} (f : Nat → α) (k : Nat) (x y : α) : va_up (va_up f k x) k y = va_up f k y := by
  funext j; unfold va_up; by_cases h : j = k
  · rw [if_pos h, if_pos h]
  · rw [if_neg h, if_neg h, if_neg h]
set_option maxHeartbeats 400000 in
theorem con_put (d : Nat) (v : Nat → Int32) (a : Nat → Nat → Int32) (b : Nat → Nat → Int64) (t : Nat) (h2 : v 2 = nI t) (ht : t + 4 ≤ 2000) (x : Int32) : Con mX9_put d [.ref 0, .int x] (mW v a b) (fun r W' => W' = mW (va_up v 2 (nI (t + 4))) (va_up a 1 (pu4 (a 1) t x)) b ∧ r = none) := by
  refine Con.of (by decide) (Nat.le_of_ble_eq_true rfl) ?_
  refine XG.blk tX9_put_ok 0 2 (pc' := 3) (pl' := [some (.ref 0), some (.int x), some (.int (nI 24))]) (st' := []) (W1 := (mW v a b)) (bs := []) rfl rfl rfl ?_
  refine XG.blk tX9_put_ok 2 1 (pc' := 4) (pl' := [some (.ref 0), some (.int x), some (.int (nI 24))]) (st' := [(.int (nI 24))]) (W1 := (mW v a b)) (bs := []) rfl rfl rfl ?_
  refine XG.br eX9_put_4 (P := (nI 24) < 0) (r := []) rfl (tgt := 36) (by decide) (fun h4 => ?_) (fun h4 => ?_)
  · exfalso
    have g4 : 24 < 0 := (nI_ltI (a := 24) (b := 0) (by omega) (by omega)).mp h4
    omega
  · skip
    have g4 : ¬ 24 < 0 := (fun z => h4 ((nI_ltI (a := 24) (b := 0) (by omega) (by omega)).mpr z))
    have q1 : (v 2) = (nI t) := h2
    have q2 : (nI t).toNatClampNeg = t := nI_clamp (by omega)
    have q3 : ((nI t) + (nI 1)) = (nI (t + 1)) := px_eadd rfl rfl
    have q4 : ((nI 24) + (-8)) = (nI 16) := by decide
    refine XG.blk tX9_put_ok 4 16 (pc' := 33) (pl' := [some (.ref 0), some (.int x), some (.int ((nI 24) + (-8)))]) (st' := []) (W1 := (mW (va_up v 2 ((v 2) + (nI 1))) (va_up a 1 (upd (a 1) (v 2).toNatClampNeg (vp_nar .byte ((x >>> ((nI 24) &&& 31))).toInt8.toInt32))) b)) (bs := [px_vb (v 2) 2000]) rfl rfl (by (try simp only [q1, q2, q3, q4]); exact (px_all (px_vbN (by omega) (by decide)) rfl)) ?_
    simp only [q1, q2, q3, q4]
    refine XG.goto eX9_put_33 (tgt := 3) (by decide) ?_
    obtain ⟨v1, hv1⟩ : ∃ z, z = (va_up v 2 (nI (t + 1))) := ⟨_, rfl⟩
    obtain ⟨a1, ha1⟩ : ∃ z, z = (va_up a 1 (upd (a 1) t (vp_nar .byte ((x >>> ((nI 24) &&& 31))).toInt8.toInt32))) := ⟨_, rfl⟩
    rw [← hv1, ← ha1]
    have h2_1 : v1 2 = nI (t + 1) := by rw [hv1]; rfl
    refine XG.blk tX9_put_ok 2 1 (pc' := 4) (pl' := [some (.ref 0), some (.int x), some (.int (nI 16))]) (st' := [(.int (nI 16))]) (W1 := (mW v1 a1 b)) (bs := []) rfl rfl rfl ?_
    refine XG.br eX9_put_4 (P := (nI 16) < 0) (r := []) rfl (tgt := 36) (by decide) (fun h4 => ?_) (fun h4 => ?_)
    · exfalso
      have g4 : 16 < 0 := (nI_ltI (a := 16) (b := 0) (by omega) (by omega)).mp h4
      omega
    · skip
      have g4 : ¬ 16 < 0 := (fun z => h4 ((nI_ltI (a := 16) (b := 0) (by omega) (by omega)).mpr z))
      have q5 : (v1 2) = (nI (t + 1)) := h2_1
      have q6 : (nI (t + 1)).toNatClampNeg = (t + 1) := nI_clamp (by omega)
      have q7 : ((nI (t + 1)) + (nI 1)) = (nI (t + 2)) := nI_p1 t 1 2 rfl
      have q8 : ((nI 16) + (-8)) = (nI 8) := by decide
      refine XG.blk tX9_put_ok 4 16 (pc' := 33) (pl' := [some (.ref 0), some (.int x), some (.int ((nI 16) + (-8)))]) (st' := []) (W1 := (mW (va_up v1 2 ((v1 2) + (nI 1))) (va_up a1 1 (upd (a1 1) (v1 2).toNatClampNeg (vp_nar .byte ((x >>> ((nI 16) &&& 31))).toInt8.toInt32))) b)) (bs := [px_vb (v1 2) 2000]) rfl rfl (by (try simp only [q5, q6, q7, q8]); exact (px_all (px_vbN (by omega) (by decide)) rfl)) ?_
      simp only [q5, q6, q7, q8]
      refine XG.goto eX9_put_33 (tgt := 3) (by decide) ?_
      obtain ⟨v2, hv2⟩ : ∃ z, z = (va_up v1 2 (nI (t + 2))) := ⟨_, rfl⟩
      obtain ⟨a2, ha2⟩ : ∃ z, z = (va_up a1 1 (upd (a1 1) (t + 1) (vp_nar .byte ((x >>> ((nI 16) &&& 31))).toInt8.toInt32))) := ⟨_, rfl⟩
      rw [← hv2, ← ha2]
      have h2_2 : v2 2 = nI (t + 2) := by rw [hv2]; rfl
      refine XG.blk tX9_put_ok 2 1 (pc' := 4) (pl' := [some (.ref 0), some (.int x), some (.int (nI 8))]) (st' := [(.int (nI 8))]) (W1 := (mW v2 a2 b)) (bs := []) rfl rfl rfl ?_
      refine XG.br eX9_put_4 (P := (nI 8) < 0) (r := []) rfl (tgt := 36) (by decide) (fun h4 => ?_) (fun h4 => ?_)
      · exfalso
        have g4 : 8 < 0 := (nI_ltI (a := 8) (b := 0) (by omega) (by omega)).mp h4
        omega
      · skip
        have g4 : ¬ 8 < 0 := (fun z => h4 ((nI_ltI (a := 8) (b := 0) (by omega) (by omega)).mpr z))
        have q9 : (v2 2) = (nI (t + 2)) := h2_2
        have q10 : (nI (t + 2)).toNatClampNeg = (t + 2) := nI_clamp (by omega)
        have q11 : ((nI (t + 2)) + (nI 1)) = (nI (t + 3)) := nI_p1 t 2 3 rfl
        have q12 : ((nI 8) + (-8)) = (nI 0) := by decide
        refine XG.blk tX9_put_ok 4 16 (pc' := 33) (pl' := [some (.ref 0), some (.int x), some (.int ((nI 8) + (-8)))]) (st' := []) (W1 := (mW (va_up v2 2 ((v2 2) + (nI 1))) (va_up a2 1 (upd (a2 1) (v2 2).toNatClampNeg (vp_nar .byte ((x >>> ((nI 8) &&& 31))).toInt8.toInt32))) b)) (bs := [px_vb (v2 2) 2000]) rfl rfl (by (try simp only [q9, q10, q11, q12]); exact (px_all (px_vbN (by omega) (by decide)) rfl)) ?_
        simp only [q9, q10, q11, q12]
        refine XG.goto eX9_put_33 (tgt := 3) (by decide) ?_
        obtain ⟨v3, hv3⟩ : ∃ z, z = (va_up v2 2 (nI (t + 3))) := ⟨_, rfl⟩
        obtain ⟨a3, ha3⟩ : ∃ z, z = (va_up a2 1 (upd (a2 1) (t + 2) (vp_nar .byte ((x >>> ((nI 8) &&& 31))).toInt8.toInt32))) := ⟨_, rfl⟩
        rw [← hv3, ← ha3]
        have h2_3 : v3 2 = nI (t + 3) := by rw [hv3]; rfl
        refine XG.blk tX9_put_ok 2 1 (pc' := 4) (pl' := [some (.ref 0), some (.int x), some (.int (nI 0))]) (st' := [(.int (nI 0))]) (W1 := (mW v3 a3 b)) (bs := []) rfl rfl rfl ?_
        refine XG.br eX9_put_4 (P := (nI 0) < 0) (r := []) rfl (tgt := 36) (by decide) (fun h4 => ?_) (fun h4 => ?_)
        · exfalso
          have g4 : 0 < 0 := (nI_ltI (a := 0) (b := 0) (by omega) (by omega)).mp h4
          omega
        · skip
          have g4 : ¬ 0 < 0 := (fun z => h4 ((nI_ltI (a := 0) (b := 0) (by omega) (by omega)).mpr z))
          have q13 : (v3 2) = (nI (t + 3)) := h2_3
          have q14 : (nI (t + 3)).toNatClampNeg = (t + 3) := nI_clamp (by omega)
          have q15 : ((nI (t + 3)) + (nI 1)) = (nI (t + 4)) := nI_p1 t 3 4 rfl
          have q16 : ((nI 0) + (-8)) = (-8) := by decide
          refine XG.blk tX9_put_ok 4 16 (pc' := 33) (pl' := [some (.ref 0), some (.int x), some (.int ((nI 0) + (-8)))]) (st' := []) (W1 := (mW (va_up v3 2 ((v3 2) + (nI 1))) (va_up a3 1 (upd (a3 1) (v3 2).toNatClampNeg (vp_nar .byte ((x >>> ((nI 0) &&& 31))).toInt8.toInt32))) b)) (bs := [px_vb (v3 2) 2000]) rfl rfl (by (try simp only [q13, q14, q15, q16]); exact (px_all (px_vbN (by omega) (by decide)) rfl)) ?_
          simp only [q13, q14, q15, q16]
          refine XG.goto eX9_put_33 (tgt := 3) (by decide) ?_
          obtain ⟨v4, hv4⟩ : ∃ z, z = (va_up v3 2 (nI (t + 4))) := ⟨_, rfl⟩
          obtain ⟨a4, ha4⟩ : ∃ z, z = (va_up a3 1 (upd (a3 1) (t + 3) (vp_nar .byte ((x >>> ((nI 0) &&& 31))).toInt8.toInt32))) := ⟨_, rfl⟩
          rw [← hv4, ← ha4]
          have h2_4 : v4 2 = nI (t + 4) := by rw [hv4]; rfl
          refine XG.blk tX9_put_ok 2 1 (pc' := 4) (pl' := [some (.ref 0), some (.int x), some (.int (-8))]) (st' := [(.int (-8))]) (W1 := (mW v4 a4 b)) (bs := []) rfl rfl rfl ?_
          refine XG.br eX9_put_4 (P := (-8) < 0) (r := []) rfl (tgt := 36) (by decide) (fun h4 => ?_) (fun h4 => ?_)
          · skip
            refine XS.vret eX9_put_36 rfl ?_
            have eV : v4 = va_up v 2 (nI (t + 4)) := by rw [hv4, hv3, hv2, hv1, va_upup, va_upup, va_upup]
            have eA : a4 = va_up a 1 (pu4 (a 1) t x) := by rw [ha4, ha3, ha2, ha1, va_upup, va_upup, va_upup]; rfl
            rw [eV, eA]
            exact ⟨rfl, rfl⟩
          · exfalso
            first | exact h4 (by decide) | exact absurd h4 (by decide)
def fd5 (f : Nat → Int32) (t : Nat) (x1 x2 x3 x4 x5 : Int32) : Nat → Int32 := pu4 (pu4 (pu4 (pu4 (pu4 f t x1) (t + 4) x2) (t + 8) x3) (t + 12) x4) (t + 16) x5
set_option maxHeartbeats 400000 in
theorem con_feed (d : Nat) (v : Nat → Int32) (a : Nat → Nat → Int32) (b : Nat → Nat → Int64) (t : Nat) (h2 : v 2 = nI t) (ht : t ≤ 2000) (x1 x2 x3 x4 x5 : Int32) (hd : 1 ≤ d) : Con mX9_feed d [.ref 0, .int x1, .int x2, .int x3, .int x4, .int x5] (mW v a b) (fun r W' => (2000 < t + 20 ∧ W' = mW v a b ∧ r = some (.int (-1))) ∨ (t + 20 ≤ 2000 ∧ W' = mW (va_up v 2 (nI (t + 20))) (va_up a 1 (fd5 (a 1) t x1 x2 x3 x4 x5)) b ∧ r = some (.int (nI (t + 20))))) := by
  refine Con.of (by decide) (Nat.le_of_ble_eq_true rfl) ?_
  have q1 : (v 2) = (nI t) := h2
  have q2 : ((nI t) + (nI 20)) = (nI (t + 20)) := px_eadd rfl rfl
  refine XG.blk tX9_feed_ok 0 5 (pc' := 10) (pl' := [some (.ref 0), some (.int x1), some (.int x2), some (.int x3), some (.int x4), some (.int x5)]) (st' := [(.int (nI 2000)), (.int ((v 2) + (nI 20)))]) (W1 := (mW v a b)) (bs := []) rfl rfl rfl ?_
  simp only [q1, q2]
  refine XG.br eX9_feed_10 (P := (nI (t + 20)) ≤ (nI 2000)) (r := []) rfl (tgt := 15) (by decide) (fun h10 => ?_) (fun h10 => ?_)
  · skip
    have g10 : (t + 20) ≤ 2000 := (nI_leI (a := (t + 20)) (b := 2000) (by omega) (by omega)).mp h10
    refine XG.blk tX9_feed_ok 8 2 (pc' := 17) (pl' := [some (.ref 0), some (.int x1), some (.int x2), some (.int x3), some (.int x4), some (.int x5)]) (st' := [(.int x1), (.ref 0)]) (W1 := (mW v a b)) (bs := []) rfl rfl rfl ?_
    refine XG.callV0 eX9_feed_17 kl_X9_181 (con_put (d - 1) v a b t h2 (by omega) x1) (px_fitS (by omega)) rfl rfl rfl (Nat.le_of_ble_eq_true rfl) (fun r9 W9 hp9 hl9 => ?_)
    obtain ⟨rfl, rfl⟩ := hp9
    show XG _ _ _ _ _ _ _ (mW (va_up v 2 (nI (t + 4))) (va_up a 1 (pu4 (a 1) t x1)) b)
    refine XG.blk tX9_feed_ok 11 2 (pc' := 22) (pl' := [some (.ref 0), some (.int x1), some (.int x2), some (.int x3), some (.int x4), some (.int x5)]) (st' := [(.int x2), (.ref 0)]) (W1 := (mW (va_up v 2 (nI (t + 4))) (va_up a 1 (pu4 (a 1) t x1)) b)) (bs := []) rfl rfl rfl ?_
    refine XG.callV0 eX9_feed_22 kl_X9_181 (con_put (d - 1) (va_up v 2 (nI (t + 4))) (va_up a 1 (pu4 (a 1) t x1)) b (t + 4) rfl (by omega) x2) (px_fitS (by omega)) rfl rfl rfl (Nat.le_of_ble_eq_true rfl) (fun r9 W9 hp9 hl9 => ?_)
    obtain ⟨rfl, rfl⟩ := hp9
    show XG _ _ _ _ _ _ _ (mW (va_up v 2 (nI (t + 8))) (va_up a 1 (pu4 (pu4 (a 1) t x1) (t + 4) x2)) b)
    refine XG.blk tX9_feed_ok 14 2 (pc' := 27) (pl' := [some (.ref 0), some (.int x1), some (.int x2), some (.int x3), some (.int x4), some (.int x5)]) (st' := [(.int x3), (.ref 0)]) (W1 := (mW (va_up v 2 (nI (t + 8))) (va_up a 1 (pu4 (pu4 (a 1) t x1) (t + 4) x2)) b)) (bs := []) rfl rfl rfl ?_
    refine XG.callV0 eX9_feed_27 kl_X9_181 (con_put (d - 1) (va_up v 2 (nI (t + 8))) (va_up a 1 (pu4 (pu4 (a 1) t x1) (t + 4) x2)) b (t + 8) rfl (by omega) x3) (px_fitS (by omega)) rfl rfl rfl (Nat.le_of_ble_eq_true rfl) (fun r9 W9 hp9 hl9 => ?_)
    obtain ⟨rfl, rfl⟩ := hp9
    show XG _ _ _ _ _ _ _ (mW (va_up v 2 (nI (t + 12))) (va_up a 1 (pu4 (pu4 (pu4 (a 1) t x1) (t + 4) x2) (t + 8) x3)) b)
    refine XG.blk tX9_feed_ok 17 2 (pc' := 33) (pl' := [some (.ref 0), some (.int x1), some (.int x2), some (.int x3), some (.int x4), some (.int x5)]) (st' := [(.int x4), (.ref 0)]) (W1 := (mW (va_up v 2 (nI (t + 12))) (va_up a 1 (pu4 (pu4 (pu4 (a 1) t x1) (t + 4) x2) (t + 8) x3)) b)) (bs := []) rfl rfl rfl ?_
    refine XG.callV0 eX9_feed_33 kl_X9_181 (con_put (d - 1) (va_up v 2 (nI (t + 12))) (va_up a 1 (pu4 (pu4 (pu4 (a 1) t x1) (t + 4) x2) (t + 8) x3)) b (t + 12) rfl (by omega) x4) (px_fitS (by omega)) rfl rfl rfl (Nat.le_of_ble_eq_true rfl) (fun r9 W9 hp9 hl9 => ?_)
    obtain ⟨rfl, rfl⟩ := hp9
    show XG _ _ _ _ _ _ _ (mW (va_up v 2 (nI (t + 16))) (va_up a 1 (pu4 (pu4 (pu4 (pu4 (a 1) t x1) (t + 4) x2) (t + 8) x3) (t + 12) x4)) b)
    refine XG.blk tX9_feed_ok 20 2 (pc' := 39) (pl' := [some (.ref 0), some (.int x1), some (.int x2), some (.int x3), some (.int x4), some (.int x5)]) (st' := [(.int x5), (.ref 0)]) (W1 := (mW (va_up v 2 (nI (t + 16))) (va_up a 1 (pu4 (pu4 (pu4 (pu4 (a 1) t x1) (t + 4) x2) (t + 8) x3) (t + 12) x4)) b)) (bs := []) rfl rfl rfl ?_
    refine XG.callV0 eX9_feed_39 kl_X9_181 (con_put (d - 1) (va_up v 2 (nI (t + 16))) (va_up a 1 (pu4 (pu4 (pu4 (pu4 (a 1) t x1) (t + 4) x2) (t + 8) x3) (t + 12) x4)) b (t + 16) rfl (by omega) x5) (px_fitS (by omega)) rfl rfl rfl (Nat.le_of_ble_eq_true rfl) (fun r9 W9 hp9 hl9 => ?_)
    obtain ⟨rfl, rfl⟩ := hp9
    show XG _ _ _ _ _ _ _ (mW (va_up v 2 (nI (t + 20))) (va_up a 1 (pu4 (pu4 (pu4 (pu4 (pu4 (a 1) t x1) (t + 4) x2) (t + 8) x3) (t + 12) x4) (t + 16) x5)) b)
    refine XG.blk tX9_feed_ok 23 2 (pc' := 46) (pl' := [some (.ref 0), some (.int x1), some (.int x2), some (.int x3), some (.int x4), some (.int x5)]) (st' := [(.int (nI (t + 20)))]) (W1 := (mW (va_up v 2 (nI (t + 20))) (va_up a 1 (pu4 (pu4 (pu4 (pu4 (pu4 (a 1) t x1) (t + 4) x2) (t + 8) x3) (t + 12) x4) (t + 16) x5)) b)) (bs := []) rfl rfl rfl ?_
    refine XS.iret eX9_feed_46 rfl rfl ?_
    exact Or.inr ⟨by omega, rfl, rfl⟩
  · skip
    have g10 : ¬ (t + 20) ≤ 2000 := (fun z => h10 ((nI_leI (a := (t + 20)) (b := 2000) (by omega) (by omega)).mpr z))
    refine XG.blk tX9_feed_ok 6 1 (pc' := 14) (pl' := [some (.ref 0), some (.int x1), some (.int x2), some (.int x3), some (.int x4), some (.int x5)]) (st' := [(.int (-1))]) (W1 := (mW v a b)) (bs := []) rfl rfl rfl ?_
    refine XS.iret eX9_feed_14 rfl rfl ?_
    exact Or.inl ⟨by omega, rfl, rfl⟩
def hl3 (f : Nat → Int32) : Int32 := (if f 0 = 0 then nI 0 else nI 1) + (if f 1 = 0 then nI 0 else nI 1) + (if f 2 = 0 then nI 0 else nI 1)
def wgA (wage : Nat → Int32) (lv : Nat) : Nat → Int32 := itN (fun x n => n + wage (6 * lv + x)) (nI 0)
def drA (row : Nat → Int32) (dawn : Int32) (dr : Nat → Int32) (lv sl : Nat) : Nat → Int32 := itN (fun p n => n + itN (drO row dawn dr lv (nI p)) 0 sl) (nI 0)
def ovA (row : Nat → Int32) : Nat → Int32 := itN (fun c n => n + row (23 + c)) (nI 0)
def qCount (v : Nat → Int32) (a : Nat → Nat → Int32) (lv sp sl cr : Nat) (what : Int32) : Int32 := swF what [nI sp, nI sl, a 30 lv, nI cr, a 54 28, a 54 29, a 54 30, a 54 31, v 2, v 61, v 69, hl3 (a 73), itN (asleepF (a 54) (a 35 lv)) 0 sl, itN (bitsF (a 54) 18 (nI 10)) 0 cr, itN (noiseF (a 54) (a 33) lv) 0 cr, wgA (a 27) lv sl, drA (a 54) (a 35 lv) (a 29) lv sl sp, lR (aQ a) lv sp sl cr (a 54), ovA (a 54) cr] (-1)
set_option maxHeartbeats 400000 in
theorem con_count (d : Nat) (v : Nat → Int32) (a : Nat → Nat → Int32) (b : Nat → Nat → Int64) (lv sp sl cr : Nat) (I : MI v a lv sp sl cr) (hwf : wf3 a lv) (what : Int32) (hd : 7 ≤ d) : Con mX9_count d [.ref 0, .int what] (mW v a b) (fun r W' => ∃ v' a', W' = mW v' a' b ∧ Qs v v' a a' ∧ r = some (.int (qCount v a lv sp sl cr what))) := by
  obtain ⟨hlv, hlv2, hsp, hsp1, hsp2, hsl, hsl2, hcr, hcr2⟩ := id I
  refine Con.of (by decide) (Nat.le_of_ble_eq_true rfl) ?_
  refine XG.blk tX9_count_ok 0 1 (pc' := 1) (pl' := [some (.ref 0), some (.int what), none, none]) (st' := [(.ref 0)]) (W1 := (mW v a b)) (bs := []) rfl rfl rfl ?_
  refine XG.callV0 eX9_count_1 kl_X9_400 (con_copQ (d - 1) v a b lv sp sl cr I) (px_fitS (by omega)) rfl rfl rfl (Nat.le_of_ble_eq_true rfl) (fun r9 W9 hp9 hl9 => ?_)
  obtain ⟨rfl, rfl⟩ := hp9
  obtain ⟨v0, hv0⟩ : ∃ z, z = vQ v a lv 0 := ⟨_, rfl⟩
  obtain ⟨a0, ha0⟩ : ∃ z, z = aQ a := ⟨_, rfl⟩
  rw [← hv0, ← ha0]
  have hK9 : K v0 a0 (a 54) (a 60) v0 a0 := by rw [hv0, ha0]; exact kQ
  have I0 : MI v0 a0 lv sp sl cr := by rw [hv0, ha0]; exact I
  have hw3 : wf3 a0 lv := by rw [ha0]; exact wf3_Q hwf
  have hlv0 := I0.1
  refine XG.blk tX9_count_ok 2 3 (pc' := 7) (pl' := [some (.ref 0), some (.int what), some (.int (nI 0)), none]) (st' := [(.int what)]) (W1 := (mW v0 a0 b)) (bs := []) rfl rfl rfl ?_
  refine XG.tsw eX9_count_7 (td := 345) (by decide) (tg := [96, 106, 116, 126, 136, 136, 136, 136, 146, 151, 156, 161, 206, 211, 229, 234, 274, 305, 310]) (by decide) (by decide) (fun h7 => ?_) (fun j7 t7 hj7 h7 => ?_)
  · skip
    refine XG.blk tX9_count_ok 158 1 (pc' := 346) (pl' := [some (.ref 0), some (.int what), some (.int (nI 0)), none]) (st' := [(.int (-1))]) (W1 := (mW v0 a0 b)) (bs := []) rfl rfl rfl ?_
    refine XS.iret eX9_count_346 rfl rfl ?_
    exact ⟨_, _, rfl, Qs.c hv0 ha0, by unfold qCount; rw [swF_out h7 rfl]⟩
  · have hl7 : j7 < 19 := (List.getElem?_eq_some_iff.mp hj7).1
    rcases (show j7 = 0 ∨ j7 = 1 ∨ j7 = 2 ∨ j7 = 3 ∨ j7 = 4 ∨ j7 = 5 ∨ j7 = 6 ∨ j7 = 7 ∨ j7 = 8 ∨ j7 = 9 ∨ j7 = 10 ∨ j7 = 11 ∨ j7 = 12 ∨ j7 = 13 ∨ j7 = 14 ∨ j7 = 15 ∨ j7 = 16 ∨ j7 = 17 ∨ j7 = 18 by omega) with rfl | rfl | rfl | rfl | rfl | rfl | rfl | rfl | rfl | rfl | rfl | rfl | rfl | rfl | rfl | rfl | rfl | rfl | rfl
    · cases hj7
      have q1 : (v0 18) = (nI lv) := hlv0
      have q2 : (a0 23) = (a 23) := ha0 ▸ rfl
      have q3 : (nI lv).toNatClampNeg = lv := nI_clamp (by omega)
      have q4 : ((a 23) lv) = (nI sp) := hsp
      refine XG.blk tX9_count_ok 6 5 (pc' := 105) (pl' := [some (.ref 0), some (.int what), some (.int (nI 0)), none]) (st' := [(.int ((a0 23) (v0 18).toNatClampNeg))]) (W1 := (mW v0 a0 b)) (bs := [px_vb (v0 18) 2]) rfl rfl (by (try simp only [q1, q2, q3, q4]); exact (px_all (px_vbN (by omega) (by decide)) rfl)) ?_
      simp only [q1, q2, q3, q4]
      refine XS.iret eX9_count_105 rfl rfl ?_
      exact ⟨_, _, rfl, Qs.c hv0 ha0, by unfold qCount; rw [swF_in 0 h7 rfl (Nat.le_of_ble_eq_true rfl)]⟩
    · cases hj7
      have q5 : (v0 18) = (nI lv) := hlv0
      have q6 : (a0 24) = (a 24) := ha0 ▸ rfl
      have q7 : (nI lv).toNatClampNeg = lv := nI_clamp (by omega)
      have q8 : ((a 24) lv) = (nI sl) := hsl
      refine XG.blk tX9_count_ok 12 5 (pc' := 115) (pl' := [some (.ref 0), some (.int what), some (.int (nI 0)), none]) (st' := [(.int ((a0 24) (v0 18).toNatClampNeg))]) (W1 := (mW v0 a0 b)) (bs := [px_vb (v0 18) 2]) rfl rfl (by (try simp only [q5, q6, q7, q8]); exact (px_all (px_vbN (by omega) (by decide)) rfl)) ?_
      simp only [q5, q6, q7, q8]
      refine XS.iret eX9_count_115 rfl rfl ?_
      exact ⟨_, _, rfl, Qs.c hv0 ha0, by unfold qCount; rw [swF_in 1 h7 rfl (Nat.le_of_ble_eq_true rfl)]⟩
    · cases hj7
      have q9 : (v0 18) = (nI lv) := hlv0
      have q10 : (a0 30) = (a 30) := ha0 ▸ rfl
      have q11 : (nI lv).toNatClampNeg = lv := nI_clamp (by omega)
      refine XG.blk tX9_count_ok 18 5 (pc' := 125) (pl' := [some (.ref 0), some (.int what), some (.int (nI 0)), none]) (st' := [(.int ((a0 30) (v0 18).toNatClampNeg))]) (W1 := (mW v0 a0 b)) (bs := [px_vb (v0 18) 2]) rfl rfl (by (try simp only [q9, q10, q11]); exact (px_all (px_vbN (by omega) (by decide)) rfl)) ?_
      simp only [q9, q10, q11]
      refine XS.iret eX9_count_125 rfl rfl ?_
      exact ⟨_, _, rfl, Qs.c hv0 ha0, by unfold qCount; rw [swF_in 2 h7 rfl (Nat.le_of_ble_eq_true rfl)]⟩
    · cases hj7
      have q12 : (v0 18) = (nI lv) := hlv0
      have q13 : (a0 31) = (a 31) := ha0 ▸ rfl
      have q14 : (nI lv).toNatClampNeg = lv := nI_clamp (by omega)
      have q15 : ((a 31) lv) = (nI cr) := hcr
      refine XG.blk tX9_count_ok 24 5 (pc' := 135) (pl' := [some (.ref 0), some (.int what), some (.int (nI 0)), none]) (st' := [(.int ((a0 31) (v0 18).toNatClampNeg))]) (W1 := (mW v0 a0 b)) (bs := [px_vb (v0 18) 2]) rfl rfl (by (try simp only [q12, q13, q14, q15]); exact (px_all (px_vbN (by omega) (by decide)) rfl)) ?_
      simp only [q12, q13, q14, q15]
      refine XS.iret eX9_count_135 rfl rfl ?_
      exact ⟨_, _, rfl, Qs.c hv0 ha0, by unfold qCount; rw [swF_in 3 h7 rfl (Nat.le_of_ble_eq_true rfl)]⟩
    · cases hj7
      have hw9 : what = nI 4 := Int32.toInt_inj.mp h7
      rw [hw9]
      have q16 : ((nI 24) + (nI 4)) = (nI (24 + 4)) := px_eadd rfl rfl
      have q17 : (a0 55) = (a 54) := hK9.2.2.1
      have q18 : (nI (24 + 4)).toNatClampNeg = (24 + 4) := nI_clamp (by omega)
      refine XG.blk tX9_count_ok 30 6 (pc' := 145) (pl' := [some (.ref 0), some (.int (nI 4)), some (.int (nI 0)), none]) (st' := [(.int ((a0 55) ((nI 24) + (nI 4)).toNatClampNeg))]) (W1 := (mW v0 a0 b)) (bs := [px_vb ((nI 24) + (nI 4)) 32]) rfl rfl (by (try simp only [q16, q17, q18]); exact (px_all (px_vbN (by omega) (by decide)) rfl)) ?_
      simp only [q16, q17, q18]
      refine XS.iret eX9_count_145 rfl rfl ?_
      exact ⟨_, _, rfl, Qs.c hv0 ha0, by unfold qCount; rw [swF_in (x := nI 4) 4 (by decide) rfl (Nat.le_of_ble_eq_true rfl)] <;> rfl⟩
    · cases hj7
      have hw9 : what = nI 5 := Int32.toInt_inj.mp h7
      rw [hw9]
      have q19 : ((nI 24) + (nI 5)) = (nI (24 + 5)) := px_eadd rfl rfl
      have q20 : (a0 55) = (a 54) := hK9.2.2.1
      have q21 : (nI (24 + 5)).toNatClampNeg = (24 + 5) := nI_clamp (by omega)
      refine XG.blk tX9_count_ok 30 6 (pc' := 145) (pl' := [some (.ref 0), some (.int (nI 5)), some (.int (nI 0)), none]) (st' := [(.int ((a0 55) ((nI 24) + (nI 5)).toNatClampNeg))]) (W1 := (mW v0 a0 b)) (bs := [px_vb ((nI 24) + (nI 5)) 32]) rfl rfl (by (try simp only [q19, q20, q21]); exact (px_all (px_vbN (by omega) (by decide)) rfl)) ?_
      simp only [q19, q20, q21]
      refine XS.iret eX9_count_145 rfl rfl ?_
      exact ⟨_, _, rfl, Qs.c hv0 ha0, by unfold qCount; rw [swF_in (x := nI 5) 5 (by decide) rfl (Nat.le_of_ble_eq_true rfl)] <;> rfl⟩
    · cases hj7
      have hw9 : what = nI 6 := Int32.toInt_inj.mp h7
      rw [hw9]
      have q22 : ((nI 24) + (nI 6)) = (nI (24 + 6)) := px_eadd rfl rfl
      have q23 : (a0 55) = (a 54) := hK9.2.2.1
      have q24 : (nI (24 + 6)).toNatClampNeg = (24 + 6) := nI_clamp (by omega)
      refine XG.blk tX9_count_ok 30 6 (pc' := 145) (pl' := [some (.ref 0), some (.int (nI 6)), some (.int (nI 0)), none]) (st' := [(.int ((a0 55) ((nI 24) + (nI 6)).toNatClampNeg))]) (W1 := (mW v0 a0 b)) (bs := [px_vb ((nI 24) + (nI 6)) 32]) rfl rfl (by (try simp only [q22, q23, q24]); exact (px_all (px_vbN (by omega) (by decide)) rfl)) ?_
      simp only [q22, q23, q24]
      refine XS.iret eX9_count_145 rfl rfl ?_
      exact ⟨_, _, rfl, Qs.c hv0 ha0, by unfold qCount; rw [swF_in (x := nI 6) 6 (by decide) rfl (Nat.le_of_ble_eq_true rfl)] <;> rfl⟩
    · cases hj7
      have hw9 : what = nI 7 := Int32.toInt_inj.mp h7
      rw [hw9]
      have q25 : ((nI 24) + (nI 7)) = (nI (24 + 7)) := px_eadd rfl rfl
      have q26 : (a0 55) = (a 54) := hK9.2.2.1
      have q27 : (nI (24 + 7)).toNatClampNeg = (24 + 7) := nI_clamp (by omega)
      refine XG.blk tX9_count_ok 30 6 (pc' := 145) (pl' := [some (.ref 0), some (.int (nI 7)), some (.int (nI 0)), none]) (st' := [(.int ((a0 55) ((nI 24) + (nI 7)).toNatClampNeg))]) (W1 := (mW v0 a0 b)) (bs := [px_vb ((nI 24) + (nI 7)) 32]) rfl rfl (by (try simp only [q25, q26, q27]); exact (px_all (px_vbN (by omega) (by decide)) rfl)) ?_
      simp only [q25, q26, q27]
      refine XS.iret eX9_count_145 rfl rfl ?_
      exact ⟨_, _, rfl, Qs.c hv0 ha0, by unfold qCount; rw [swF_in (x := nI 7) 7 (by decide) rfl (Nat.le_of_ble_eq_true rfl)] <;> rfl⟩
    · cases hj7
      have q28 : (v0 2) = (v 2) := by rw [hv0]; rfl
      refine XG.blk tX9_count_ok 37 2 (pc' := 150) (pl' := [some (.ref 0), some (.int what), some (.int (nI 0)), none]) (st' := [(.int (v0 2))]) (W1 := (mW v0 a0 b)) (bs := []) rfl rfl rfl ?_
      simp only [q28]
      refine XS.iret eX9_count_150 rfl rfl ?_
      exact ⟨_, _, rfl, Qs.c hv0 ha0, by unfold qCount; rw [swF_in 8 h7 rfl (Nat.le_of_ble_eq_true rfl)]⟩
    · cases hj7
      have q29 : (v0 61) = (v 61) := by rw [hv0]; rfl
      refine XG.blk tX9_count_ok 40 2 (pc' := 155) (pl' := [some (.ref 0), some (.int what), some (.int (nI 0)), none]) (st' := [(.int (v0 61))]) (W1 := (mW v0 a0 b)) (bs := []) rfl rfl rfl ?_
      simp only [q29]
      refine XS.iret eX9_count_155 rfl rfl ?_
      exact ⟨_, _, rfl, Qs.c hv0 ha0, by unfold qCount; rw [swF_in 9 h7 rfl (Nat.le_of_ble_eq_true rfl)]⟩
    · cases hj7
      have q30 : (v0 69) = (v 69) := by rw [hv0]; rfl
      refine XG.blk tX9_count_ok 43 2 (pc' := 160) (pl' := [some (.ref 0), some (.int what), some (.int (nI 0)), none]) (st' := [(.int (v0 69))]) (W1 := (mW v0 a0 b)) (bs := []) rfl rfl rfl ?_
      simp only [q30]
      refine XS.iret eX9_count_160 rfl rfl ?_
      exact ⟨_, _, rfl, Qs.c hv0 ha0, by unfold qCount; rw [swF_in 10 h7 rfl (Nat.le_of_ble_eq_true rfl)]⟩
    · cases hj7
      have q31 : (a0 73) = (a 73) := ha0 ▸ rfl
      have q32 : (nI 0).toNatClampNeg = 0 := nI_clamp (by omega)
      refine XG.blk tX9_count_ok 46 4 (pc' := 167) (pl' := [some (.ref 0), some (.int what), some (.int (nI 0)), none]) (st' := [(.int ((a0 73) (nI 0).toNatClampNeg))]) (W1 := (mW v0 a0 b)) (bs := [px_vb (nI 0) 3]) rfl rfl (by (try simp only [q31, q32]); exact (px_all (px_vbN (by omega) (by decide)) rfl)) ?_
      simp only [q31, q32]
      refine XG.br eX9_count_167 (P := ((a 73) 0) = 0) (r := []) rfl (tgt := 174) (by decide) (fun h167 => ?_) (fun h167 => ?_)
      · skip
        have q33 : (a0 73) = (a 73) := ha0 ▸ rfl
        have q34 : (nI 1).toNatClampNeg = 1 := nI_clamp (by omega)
        refine XG.blk tX9_count_ok 53 5 (pc' := 181) (pl' := [some (.ref 0), some (.int what), some (.int (nI 0)), none]) (st' := [(.int ((a0 73) (nI 1).toNatClampNeg)), (.int (nI 0))]) (W1 := (mW v0 a0 b)) (bs := [px_vb (nI 1) 3]) rfl rfl (by (try simp only [q33, q34]); exact (px_all (px_vbN (by omega) (by decide)) rfl)) ?_
        simp only [q33, q34]
        refine XG.br eX9_count_181 (P := ((a 73) 1) = 0) (r := [(.int (nI 0))]) rfl (tgt := 188) (by decide) (fun h181 => ?_) (fun h181 => ?_)
        · skip
          have q35 : ((nI 0) + (nI 0)) = (nI (0 + 0)) := px_eadd rfl rfl
          have q36 : (a0 73) = (a 73) := ha0 ▸ rfl
          have q37 : (nI 2).toNatClampNeg = 2 := nI_clamp (by omega)
          refine XG.blk tX9_count_ok 61 6 (pc' := 196) (pl' := [some (.ref 0), some (.int what), some (.int (nI 0)), none]) (st' := [(.int ((a0 73) (nI 2).toNatClampNeg)), (.int ((nI 0) + (nI 0)))]) (W1 := (mW v0 a0 b)) (bs := [px_vb (nI 2) 3]) rfl rfl (by (try simp only [q35, q36, q37]); exact (px_all (px_vbN (by omega) (by decide)) rfl)) ?_
          simp only [q35, q36, q37]
          refine XG.br eX9_count_196 (P := ((a 73) 2) = 0) (r := [(.int (nI (0 + 0)))]) rfl (tgt := 203) (by decide) (fun h196 => ?_) (fun h196 => ?_)
          · skip
            have q38 : ((nI (0 + 0)) + (nI 0)) = (nI ((0 + 0) + 0)) := px_eadd rfl rfl
            refine XG.blk tX9_count_ok 70 2 (pc' := 205) (pl' := [some (.ref 0), some (.int what), some (.int (nI 0)), none]) (st' := [(.int ((nI (0 + 0)) + (nI 0)))]) (W1 := (mW v0 a0 b)) (bs := []) rfl rfl rfl ?_
            simp only [q38]
            refine XS.iret eX9_count_205 rfl rfl ?_
            exact ⟨_, _, rfl, Qs.c hv0 ha0, by unfold qCount; rw [swF_in 11 h7 rfl (Nat.le_of_ble_eq_true rfl)]; unfold hl3; rw [if_pos h167, if_pos h181, if_pos h196] <;> rfl⟩
          · skip
            refine XG.blk tX9_count_ok 68 1 (pc' := 200) (pl' := [some (.ref 0), some (.int what), some (.int (nI 0)), none]) (st' := [(.int (nI 1)), (.int (nI (0 + 0)))]) (W1 := (mW v0 a0 b)) (bs := []) rfl rfl rfl ?_
            refine XG.goto eX9_count_200 (tgt := 204) (by decide) ?_
            have q39 : ((nI (0 + 0)) + (nI 1)) = (nI ((0 + 0) + 1)) := px_eadd rfl rfl
            refine XG.blk tX9_count_ok 71 1 (pc' := 205) (pl' := [some (.ref 0), some (.int what), some (.int (nI 0)), none]) (st' := [(.int ((nI (0 + 0)) + (nI 1)))]) (W1 := (mW v0 a0 b)) (bs := []) rfl rfl rfl ?_
            simp only [q39]
            refine XS.iret eX9_count_205 rfl rfl ?_
            exact ⟨_, _, rfl, Qs.c hv0 ha0, by unfold qCount; rw [swF_in 11 h7 rfl (Nat.le_of_ble_eq_true rfl)]; unfold hl3; rw [if_pos h167, if_pos h181, if_neg h196] <;> rfl⟩
        · skip
          refine XG.blk tX9_count_ok 59 1 (pc' := 185) (pl' := [some (.ref 0), some (.int what), some (.int (nI 0)), none]) (st' := [(.int (nI 1)), (.int (nI 0))]) (W1 := (mW v0 a0 b)) (bs := []) rfl rfl rfl ?_
          refine XG.goto eX9_count_185 (tgt := 189) (by decide) ?_
          have q40 : ((nI 0) + (nI 1)) = (nI (0 + 1)) := px_eadd rfl rfl
          have q41 : (a0 73) = (a 73) := ha0 ▸ rfl
          have q42 : (nI 2).toNatClampNeg = 2 := nI_clamp (by omega)
          refine XG.blk tX9_count_ok 62 5 (pc' := 196) (pl' := [some (.ref 0), some (.int what), some (.int (nI 0)), none]) (st' := [(.int ((a0 73) (nI 2).toNatClampNeg)), (.int ((nI 0) + (nI 1)))]) (W1 := (mW v0 a0 b)) (bs := [px_vb (nI 2) 3]) rfl rfl (by (try simp only [q40, q41, q42]); exact (px_all (px_vbN (by omega) (by decide)) rfl)) ?_
          simp only [q40, q41, q42]
          refine XG.br eX9_count_196 (P := ((a 73) 2) = 0) (r := [(.int (nI (0 + 1)))]) rfl (tgt := 203) (by decide) (fun h196 => ?_) (fun h196 => ?_)
          · skip
            have q43 : ((nI (0 + 1)) + (nI 0)) = (nI ((0 + 1) + 0)) := px_eadd rfl rfl
            refine XG.blk tX9_count_ok 70 2 (pc' := 205) (pl' := [some (.ref 0), some (.int what), some (.int (nI 0)), none]) (st' := [(.int ((nI (0 + 1)) + (nI 0)))]) (W1 := (mW v0 a0 b)) (bs := []) rfl rfl rfl ?_
            simp only [q43]
            refine XS.iret eX9_count_205 rfl rfl ?_
            exact ⟨_, _, rfl, Qs.c hv0 ha0, by unfold qCount; rw [swF_in 11 h7 rfl (Nat.le_of_ble_eq_true rfl)]; unfold hl3; rw [if_pos h167, if_neg h181, if_pos h196] <;> rfl⟩
          · skip
            refine XG.blk tX9_count_ok 68 1 (pc' := 200) (pl' := [some (.ref 0), some (.int what), some (.int (nI 0)), none]) (st' := [(.int (nI 1)), (.int (nI (0 + 1)))]) (W1 := (mW v0 a0 b)) (bs := []) rfl rfl rfl ?_
            refine XG.goto eX9_count_200 (tgt := 204) (by decide) ?_
            have q44 : ((nI (0 + 1)) + (nI 1)) = (nI ((0 + 1) + 1)) := px_eadd rfl rfl
            refine XG.blk tX9_count_ok 71 1 (pc' := 205) (pl' := [some (.ref 0), some (.int what), some (.int (nI 0)), none]) (st' := [(.int ((nI (0 + 1)) + (nI 1)))]) (W1 := (mW v0 a0 b)) (bs := []) rfl rfl rfl ?_
            simp only [q44]
            refine XS.iret eX9_count_205 rfl rfl ?_
            exact ⟨_, _, rfl, Qs.c hv0 ha0, by unfold qCount; rw [swF_in 11 h7 rfl (Nat.le_of_ble_eq_true rfl)]; unfold hl3; rw [if_pos h167, if_neg h181, if_neg h196] <;> rfl⟩
      · skip
        refine XG.blk tX9_count_ok 51 1 (pc' := 171) (pl' := [some (.ref 0), some (.int what), some (.int (nI 0)), none]) (st' := [(.int (nI 1))]) (W1 := (mW v0 a0 b)) (bs := []) rfl rfl rfl ?_
        refine XG.goto eX9_count_171 (tgt := 175) (by decide) ?_
        have q45 : (a0 73) = (a 73) := ha0 ▸ rfl
        have q46 : (nI 1).toNatClampNeg = 1 := nI_clamp (by omega)
        refine XG.blk tX9_count_ok 54 4 (pc' := 181) (pl' := [some (.ref 0), some (.int what), some (.int (nI 0)), none]) (st' := [(.int ((a0 73) (nI 1).toNatClampNeg)), (.int (nI 1))]) (W1 := (mW v0 a0 b)) (bs := [px_vb (nI 1) 3]) rfl rfl (by (try simp only [q45, q46]); exact (px_all (px_vbN (by omega) (by decide)) rfl)) ?_
        simp only [q45, q46]
        refine XG.br eX9_count_181 (P := ((a 73) 1) = 0) (r := [(.int (nI 1))]) rfl (tgt := 188) (by decide) (fun h181 => ?_) (fun h181 => ?_)
        · skip
          have q47 : ((nI 1) + (nI 0)) = (nI (1 + 0)) := px_eadd rfl rfl
          have q48 : (a0 73) = (a 73) := ha0 ▸ rfl
          have q49 : (nI 2).toNatClampNeg = 2 := nI_clamp (by omega)
          refine XG.blk tX9_count_ok 61 6 (pc' := 196) (pl' := [some (.ref 0), some (.int what), some (.int (nI 0)), none]) (st' := [(.int ((a0 73) (nI 2).toNatClampNeg)), (.int ((nI 1) + (nI 0)))]) (W1 := (mW v0 a0 b)) (bs := [px_vb (nI 2) 3]) rfl rfl (by (try simp only [q47, q48, q49]); exact (px_all (px_vbN (by omega) (by decide)) rfl)) ?_
          simp only [q47, q48, q49]
          refine XG.br eX9_count_196 (P := ((a 73) 2) = 0) (r := [(.int (nI (1 + 0)))]) rfl (tgt := 203) (by decide) (fun h196 => ?_) (fun h196 => ?_)
          · skip
            have q50 : ((nI (1 + 0)) + (nI 0)) = (nI ((1 + 0) + 0)) := px_eadd rfl rfl
            refine XG.blk tX9_count_ok 70 2 (pc' := 205) (pl' := [some (.ref 0), some (.int what), some (.int (nI 0)), none]) (st' := [(.int ((nI (1 + 0)) + (nI 0)))]) (W1 := (mW v0 a0 b)) (bs := []) rfl rfl rfl ?_
            simp only [q50]
            refine XS.iret eX9_count_205 rfl rfl ?_
            exact ⟨_, _, rfl, Qs.c hv0 ha0, by unfold qCount; rw [swF_in 11 h7 rfl (Nat.le_of_ble_eq_true rfl)]; unfold hl3; rw [if_neg h167, if_pos h181, if_pos h196] <;> rfl⟩
          · skip
            refine XG.blk tX9_count_ok 68 1 (pc' := 200) (pl' := [some (.ref 0), some (.int what), some (.int (nI 0)), none]) (st' := [(.int (nI 1)), (.int (nI (1 + 0)))]) (W1 := (mW v0 a0 b)) (bs := []) rfl rfl rfl ?_
            refine XG.goto eX9_count_200 (tgt := 204) (by decide) ?_
            have q51 : ((nI (1 + 0)) + (nI 1)) = (nI ((1 + 0) + 1)) := px_eadd rfl rfl
            refine XG.blk tX9_count_ok 71 1 (pc' := 205) (pl' := [some (.ref 0), some (.int what), some (.int (nI 0)), none]) (st' := [(.int ((nI (1 + 0)) + (nI 1)))]) (W1 := (mW v0 a0 b)) (bs := []) rfl rfl rfl ?_
            simp only [q51]
            refine XS.iret eX9_count_205 rfl rfl ?_
            exact ⟨_, _, rfl, Qs.c hv0 ha0, by unfold qCount; rw [swF_in 11 h7 rfl (Nat.le_of_ble_eq_true rfl)]; unfold hl3; rw [if_neg h167, if_pos h181, if_neg h196] <;> rfl⟩
        · skip
          refine XG.blk tX9_count_ok 59 1 (pc' := 185) (pl' := [some (.ref 0), some (.int what), some (.int (nI 0)), none]) (st' := [(.int (nI 1)), (.int (nI 1))]) (W1 := (mW v0 a0 b)) (bs := []) rfl rfl rfl ?_
          refine XG.goto eX9_count_185 (tgt := 189) (by decide) ?_
          have q52 : ((nI 1) + (nI 1)) = (nI (1 + 1)) := px_eadd rfl rfl
          have q53 : (a0 73) = (a 73) := ha0 ▸ rfl
          have q54 : (nI 2).toNatClampNeg = 2 := nI_clamp (by omega)
          refine XG.blk tX9_count_ok 62 5 (pc' := 196) (pl' := [some (.ref 0), some (.int what), some (.int (nI 0)), none]) (st' := [(.int ((a0 73) (nI 2).toNatClampNeg)), (.int ((nI 1) + (nI 1)))]) (W1 := (mW v0 a0 b)) (bs := [px_vb (nI 2) 3]) rfl rfl (by (try simp only [q52, q53, q54]); exact (px_all (px_vbN (by omega) (by decide)) rfl)) ?_
          simp only [q52, q53, q54]
          refine XG.br eX9_count_196 (P := ((a 73) 2) = 0) (r := [(.int (nI (1 + 1)))]) rfl (tgt := 203) (by decide) (fun h196 => ?_) (fun h196 => ?_)
          · skip
            have q55 : ((nI (1 + 1)) + (nI 0)) = (nI ((1 + 1) + 0)) := px_eadd rfl rfl
            refine XG.blk tX9_count_ok 70 2 (pc' := 205) (pl' := [some (.ref 0), some (.int what), some (.int (nI 0)), none]) (st' := [(.int ((nI (1 + 1)) + (nI 0)))]) (W1 := (mW v0 a0 b)) (bs := []) rfl rfl rfl ?_
            simp only [q55]
            refine XS.iret eX9_count_205 rfl rfl ?_
            exact ⟨_, _, rfl, Qs.c hv0 ha0, by unfold qCount; rw [swF_in 11 h7 rfl (Nat.le_of_ble_eq_true rfl)]; unfold hl3; rw [if_neg h167, if_neg h181, if_pos h196] <;> rfl⟩
          · skip
            refine XG.blk tX9_count_ok 68 1 (pc' := 200) (pl' := [some (.ref 0), some (.int what), some (.int (nI 0)), none]) (st' := [(.int (nI 1)), (.int (nI (1 + 1)))]) (W1 := (mW v0 a0 b)) (bs := []) rfl rfl rfl ?_
            refine XG.goto eX9_count_200 (tgt := 204) (by decide) ?_
            have q56 : ((nI (1 + 1)) + (nI 1)) = (nI ((1 + 1) + 1)) := px_eadd rfl rfl
            refine XG.blk tX9_count_ok 71 1 (pc' := 205) (pl' := [some (.ref 0), some (.int what), some (.int (nI 0)), none]) (st' := [(.int ((nI (1 + 1)) + (nI 1)))]) (W1 := (mW v0 a0 b)) (bs := []) rfl rfl rfl ?_
            simp only [q56]
            refine XS.iret eX9_count_205 rfl rfl ?_
            exact ⟨_, _, rfl, Qs.c hv0 ha0, by unfold qCount; rw [swF_in 11 h7 rfl (Nat.le_of_ble_eq_true rfl)]; unfold hl3; rw [if_neg h167, if_neg h181, if_neg h196] <;> rfl⟩
    · cases hj7
      refine XG.blk tX9_count_ok 73 1 (pc' := 207) (pl' := [some (.ref 0), some (.int what), some (.int (nI 0)), none]) (st' := [(.ref 0)]) (W1 := (mW v0 a0 b)) (bs := []) rfl rfl rfl ?_
      refine XG.callV0 eX9_count_207 kl_X9_421 (con_abK (d - 1) v0 v0 a0 a0 b (a 54) _ hK9 lv sp sl cr I0 (by omega)) (px_fitS (by omega)) rfl rfl rfl (Nat.le_of_ble_eq_true rfl) (fun r9 W9 hp9 hl9 => ?_)
      obtain ⟨rfl, rfl⟩ := hp9
      refine XS.iret eX9_count_210 rfl rfl ?_
      exact ⟨_, _, rfl, Qs.c hv0 ha0, by unfold qCount; rw [swF_in 12 h7 rfl (Nat.le_of_ble_eq_true rfl), show a 35 = a0 35 from ha0 ▸ rfl]⟩
    · cases hj7
      have q57 : (v0 18) = (nI lv) := hlv0
      have q58 : (a0 31) = (a 31) := ha0 ▸ rfl
      have q59 : (nI lv).toNatClampNeg = lv := nI_clamp (by omega)
      have q60 : ((a 31) lv) = (nI cr) := hcr
      refine XG.blk tX9_count_ok 76 8 (pc' := 225) (pl' := [some (.ref 0), some (.int what), some (.int (nI 0)), none]) (st' := [(.int (nI 10)), (.int ((a0 31) (v0 18).toNatClampNeg)), (.int (nI 18)), (.ref 0)]) (W1 := (mW v0 a0 b)) (bs := [px_vb (v0 18) 2]) rfl rfl (by (try simp only [q57, q58, q59, q60]); exact (px_all (px_vbN (by omega) (by decide)) rfl)) ?_
      simp only [q57, q58, q59, q60]
      refine XG.callV0 eX9_count_225 kl_X9_409 (con_bitsOf (d - 1) v0 a0 b 18 cr (nI 10) (by omega)) (px_fitS (by omega)) rfl rfl rfl (Nat.le_of_ble_eq_true rfl) (fun r9 W9 hp9 hl9 => ?_)
      obtain ⟨rfl, rfl⟩ := hp9
      refine XS.iret eX9_count_228 rfl rfl ?_
      exact ⟨_, _, rfl, Qs.c hv0 ha0, by unfold qCount; rw [swF_in 13 h7 rfl (Nat.le_of_ble_eq_true rfl), show a 54 = a0 55 from ha0 ▸ rfl]⟩
    · cases hj7
      refine XG.blk tX9_count_ok 86 1 (pc' := 230) (pl' := [some (.ref 0), some (.int what), some (.int (nI 0)), none]) (st' := [(.ref 0)]) (W1 := (mW v0 a0 b)) (bs := []) rfl rfl rfl ?_
      refine XG.callV0 eX9_count_230 kl_X9_351 (con_noiseNow (d - 1) v0 a0 b lv sp sl cr I0 (by omega)) (px_fitS (by omega)) rfl rfl rfl (Nat.le_of_ble_eq_true rfl) (fun r9 W9 hp9 hl9 => ?_)
      obtain ⟨rfl, rfl⟩ := hp9
      refine XS.iret eX9_count_233 rfl rfl ?_
      exact ⟨_, _, rfl, Qs.c hv0 ha0, by unfold qCount; rw [swF_in 14 h7 rfl (Nat.le_of_ble_eq_true rfl), show a 54 = a0 55 from ha0 ▸ rfl, show a 33 = a0 33 from ha0 ▸ rfl]⟩
    · cases hj7
      refine XG.blk tX9_count_ok 89 2 (pc' := 236) (pl' := [some (.ref 0), some (.int what), some (.int (nI 0)), some (.int (nI 0))]) (st' := []) (W1 := (mW v0 a0 b)) (bs := []) rfl rfl rfl ?_
      refine px_for sl (fun i => XG mX9_count _ 0 0 236 [some (.ref 0), some (.int what), some (.int (wgA (a 27) lv i)), some (.int (nI i))] [] (mW v0 a0 b)) ?_ ?_ 0 (Nat.zero_le _)
      · skip
        have q61 : (v0 18) = (nI lv) := hlv0
        have q62 : (a0 24) = (a 24) := ha0 ▸ rfl
        have q63 : (nI lv).toNatClampNeg = lv := nI_clamp (by omega)
        have q64 : ((a 24) lv) = (nI sl) := hsl
        refine XG.blk tX9_count_ok 91 6 (pc' := 246) (pl' := [some (.ref 0), some (.int what), some (.int (wgA (a 27) lv sl)), some (.int (nI sl))]) (st' := [(.int ((a0 24) (v0 18).toNatClampNeg)), (.int (nI sl))]) (W1 := (mW v0 a0 b)) (bs := [px_vb (v0 18) 2]) rfl rfl (by (try simp only [q61, q62, q63, q64]); exact (px_all (px_vbN (by omega) (by decide)) rfl)) ?_
        simp only [q61, q62, q63, q64]
        refine XG.br eX9_count_246 (P := (nI sl) ≤ (nI sl)) (r := []) rfl (tgt := 272) (by decide) (fun h246 => ?_) (fun h246 => ?_)
        · skip
          have g246 : sl ≤ sl := (nI_leI (a := sl) (b := sl) (by omega) (by omega)).mp h246
          refine XG.blk tX9_count_ok 112 1 (pc' := 273) (pl' := [some (.ref 0), some (.int what), some (.int (wgA (a 27) lv sl)), some (.int (nI sl))]) (st' := [(.int (wgA (a 27) lv sl))]) (W1 := (mW v0 a0 b)) (bs := []) rfl rfl rfl ?_
          refine XS.iret eX9_count_273 rfl rfl ?_
          exact ⟨_, _, rfl, Qs.c hv0 ha0, by unfold qCount; rw [swF_in 15 h7 rfl (Nat.le_of_ble_eq_true rfl)]⟩
        · exfalso
          have g246 : ¬ sl ≤ sl := (fun z => h246 ((nI_leI (a := sl) (b := sl) (by omega) (by omega)).mpr z))
          omega
      · intro i hi ihi
        have q65 : (v0 18) = (nI lv) := hlv0
        have q66 : (a0 24) = (a 24) := ha0 ▸ rfl
        have q67 : (nI lv).toNatClampNeg = lv := nI_clamp (by omega)
        have q68 : ((a 24) lv) = (nI sl) := hsl
        refine XG.blk tX9_count_ok 91 6 (pc' := 246) (pl' := [some (.ref 0), some (.int what), some (.int (wgA (a 27) lv i)), some (.int (nI i))]) (st' := [(.int ((a0 24) (v0 18).toNatClampNeg)), (.int (nI i))]) (W1 := (mW v0 a0 b)) (bs := [px_vb (v0 18) 2]) rfl rfl (by (try simp only [q65, q66, q67, q68]); exact (px_all (px_vbN (by omega) (by decide)) rfl)) ?_
        simp only [q65, q66, q67, q68]
        refine XG.br eX9_count_246 (P := (nI sl) ≤ (nI i)) (r := []) rfl (tgt := 272) (by decide) (fun h246 => ?_) (fun h246 => ?_)
        · exfalso
          have g246 : sl ≤ i := (nI_leI (a := sl) (b := i) (by omega) (by omega)).mp h246
          omega
        · skip
          have g246 : ¬ sl ≤ i := (fun z => h246 ((nI_leI (a := sl) (b := i) (by omega) (by omega)).mpr z))
          have q69 : (v0 18) = (nI lv) := hlv0
          have q70 : ((nI 6) * (nI lv)) = (nI (6 * lv)) := px_emul rfl rfl
          have q71 : ((nI (6 * lv)) + (nI i)) = (nI ((6 * lv) + i)) := px_eadd rfl rfl
          have q72 : (a0 27) = (a 27) := ha0 ▸ rfl
          have q73 : (nI ((6 * lv) + i)).toNatClampNeg = ((6 * lv) + i) := nI_clamp (by omega)
          have q74 : ((nI i) + (nI 1)) = (nI (i + 1)) := px_eadd rfl rfl
          refine XG.blk tX9_count_ok 98 13 (pc' := 269) (pl' := [some (.ref 0), some (.int what), some (.int ((wgA (a 27) lv i) + ((a0 27) (((nI 6) * (v0 18)) + (nI i)).toNatClampNeg))), some (.int ((nI i) + (nI 1)))]) (st' := []) (W1 := (mW v0 a0 b)) (bs := [px_vb (((nI 6) * (v0 18)) + (nI i)) 12]) rfl rfl (by (try simp only [q69, q70, q71, q72, q73, q74]); exact (px_all (px_vbN (by omega) (by decide)) rfl)) ?_
          simp only [q69, q70, q71, q72, q73, q74]
          refine XG.goto eX9_count_269 (tgt := 236) (by decide) ?_
          exact ihi
    · cases hj7
      refine XG.blk tX9_count_ok 114 2 (pc' := 276) (pl' := [some (.ref 0), some (.int what), some (.int (nI 0)), some (.int (nI 0))]) (st' := []) (W1 := (mW v0 a0 b)) (bs := []) rfl rfl rfl ?_
      refine px_for sp (fun i => XG mX9_count _ 0 0 276 [some (.ref 0), some (.int what), some (.int (drA (a0 55) (a0 35 lv) (a0 29) lv sl i)), some (.int (nI i))] [] (mW v0 a0 b)) ?_ ?_ 0 (Nat.zero_le _)
      · skip
        have q75 : (v0 18) = (nI lv) := hlv0
        have q76 : (a0 23) = (a 23) := ha0 ▸ rfl
        have q77 : (nI lv).toNatClampNeg = lv := nI_clamp (by omega)
        have q78 : ((a 23) lv) = (nI sp) := hsp
        refine XG.blk tX9_count_ok 116 6 (pc' := 286) (pl' := [some (.ref 0), some (.int what), some (.int (drA (a0 55) (a0 35 lv) (a0 29) lv sl sp)), some (.int (nI sp))]) (st' := [(.int ((a0 23) (v0 18).toNatClampNeg)), (.int (nI sp))]) (W1 := (mW v0 a0 b)) (bs := [px_vb (v0 18) 2]) rfl rfl (by (try simp only [q75, q76, q77, q78]); exact (px_all (px_vbN (by omega) (by decide)) rfl)) ?_
        simp only [q75, q76, q77, q78]
        refine XG.br eX9_count_286 (P := (nI sp) ≤ (nI sp)) (r := []) rfl (tgt := 303) (by decide) (fun h286 => ?_) (fun h286 => ?_)
        · skip
          have g286 : sp ≤ sp := (nI_leI (a := sp) (b := sp) (by omega) (by omega)).mp h286
          refine XG.blk tX9_count_ok 131 1 (pc' := 304) (pl' := [some (.ref 0), some (.int what), some (.int (drA (a0 55) (a0 35 lv) (a0 29) lv sl sp)), some (.int (nI sp))]) (st' := [(.int (drA (a0 55) (a0 35 lv) (a0 29) lv sl sp))]) (W1 := (mW v0 a0 b)) (bs := []) rfl rfl rfl ?_
          refine XS.iret eX9_count_304 rfl rfl ?_
          exact ⟨_, _, rfl, Qs.c hv0 ha0, by unfold qCount; rw [swF_in 16 h7 rfl (Nat.le_of_ble_eq_true rfl), show a 54 = a0 55 from ha0 ▸ rfl, show a 35 = a0 35 from ha0 ▸ rfl, show a 29 = a0 29 from ha0 ▸ rfl]⟩
        · exfalso
          have g286 : ¬ sp ≤ sp := (fun z => h286 ((nI_leI (a := sp) (b := sp) (by omega) (by omega)).mpr z))
          omega
      · intro i hi ihi
        have q79 : (v0 18) = (nI lv) := hlv0
        have q80 : (a0 23) = (a 23) := ha0 ▸ rfl
        have q81 : (nI lv).toNatClampNeg = lv := nI_clamp (by omega)
        have q82 : ((a 23) lv) = (nI sp) := hsp
        refine XG.blk tX9_count_ok 116 6 (pc' := 286) (pl' := [some (.ref 0), some (.int what), some (.int (drA (a0 55) (a0 35 lv) (a0 29) lv sl i)), some (.int (nI i))]) (st' := [(.int ((a0 23) (v0 18).toNatClampNeg)), (.int (nI i))]) (W1 := (mW v0 a0 b)) (bs := [px_vb (v0 18) 2]) rfl rfl (by (try simp only [q79, q80, q81, q82]); exact (px_all (px_vbN (by omega) (by decide)) rfl)) ?_
        simp only [q79, q80, q81, q82]
        refine XG.br eX9_count_286 (P := (nI sp) ≤ (nI i)) (r := []) rfl (tgt := 303) (by decide) (fun h286 => ?_) (fun h286 => ?_)
        · exfalso
          have g286 : sp ≤ i := (nI_leI (a := sp) (b := i) (by omega) (by omega)).mp h286
          omega
        · skip
          have g286 : ¬ sp ≤ i := (fun z => h286 ((nI_leI (a := sp) (b := i) (by omega) (by omega)).mpr z))
          refine XG.blk tX9_count_ok 123 3 (pc' := 292) (pl' := [some (.ref 0), some (.int what), some (.int (drA (a0 55) (a0 35 lv) (a0 29) lv sl i)), some (.int (nI i))]) (st' := [(.int (nI i)), (.ref 0), (.int (drA (a0 55) (a0 35 lv) (a0 29) lv sl i))]) (W1 := (mW v0 a0 b)) (bs := []) rfl rfl rfl ?_
          refine XG.callV0 eX9_count_292 kl_X9_373 (con_dreamsOn (d - 1) v0 a0 b (nI i) _ _ _ _ I0 (by omega)) (px_fitS (by omega)) rfl rfl rfl (Nat.le_of_ble_eq_true rfl) (fun r9 W9 hp9 hl9 => ?_)
          obtain ⟨rfl, rfl⟩ := hp9
          have q83 : ((nI i) + (nI 1)) = (nI (i + 1)) := px_eadd rfl rfl
          refine XG.blk tX9_count_ok 127 3 (pc' := 300) (pl' := [some (.ref 0), some (.int what), some (.int ((drA (a0 55) (a0 35 lv) (a0 29) lv sl i) + (itN (drO (a0 55) (a0 35 lv) (a0 29) lv (nI i)) 0 sl))), some (.int ((nI i) + (nI 1)))]) (st' := []) (W1 := (mW v0 a0 b)) (bs := []) rfl rfl rfl ?_
          simp only [q83]
          refine XG.goto eX9_count_300 (tgt := 276) (by decide) ?_
          exact ihi
    · cases hj7
      refine XG.blk tX9_count_ok 133 1 (pc' := 306) (pl' := [some (.ref 0), some (.int what), some (.int (nI 0)), none]) (st' := [(.ref 0)]) (W1 := (mW v0 a0 b)) (bs := []) rfl rfl rfl ?_
      refine XG.callV0 eX9_count_306 kl_X9_427 (con_leK (d - 1) v0 v0 a0 a0 b (a 54) _ hK9 lv sp sl cr I0 hw3 (by omega)) (px_fitS (by omega)) rfl rfl rfl (Nat.le_of_ble_eq_true rfl) (fun r9 W9 hp9 hl9 => ?_)
      obtain ⟨v21, a21, rfl, hj21, rfl⟩ := hp9
      have hK21 := K.J hK9 hj21
      have hlv21 := (hK21.MI I0).1
      refine XS.iret eX9_count_309 rfl rfl ?_
      exact ⟨_, _, rfl, (Qs.c hv0 ha0).tr (Qs.K hK21), by unfold qCount; rw [swF_in 17 h7 rfl (Nat.le_of_ble_eq_true rfl), ← ha0]⟩
    · cases hj7
      refine XG.blk tX9_count_ok 136 2 (pc' := 312) (pl' := [some (.ref 0), some (.int what), some (.int (nI 0)), some (.int (nI 0))]) (st' := []) (W1 := (mW v0 a0 b)) (bs := []) rfl rfl rfl ?_
      refine px_for cr (fun i => XG mX9_count _ 0 0 312 [some (.ref 0), some (.int what), some (.int (ovA (a 54) i)), some (.int (nI i))] [] (mW v0 a0 b)) ?_ ?_ 0 (Nat.zero_le _)
      · skip
        have q84 : (v0 18) = (nI lv) := hlv0
        have q85 : (a0 31) = (a 31) := ha0 ▸ rfl
        have q86 : (nI lv).toNatClampNeg = lv := nI_clamp (by omega)
        have q87 : ((a 31) lv) = (nI cr) := hcr
        refine XG.blk tX9_count_ok 138 6 (pc' := 322) (pl' := [some (.ref 0), some (.int what), some (.int (ovA (a 54) cr)), some (.int (nI cr))]) (st' := [(.int ((a0 31) (v0 18).toNatClampNeg)), (.int (nI cr))]) (W1 := (mW v0 a0 b)) (bs := [px_vb (v0 18) 2]) rfl rfl (by (try simp only [q84, q85, q86, q87]); exact (px_all (px_vbN (by omega) (by decide)) rfl)) ?_
        simp only [q84, q85, q86, q87]
        refine XG.br eX9_count_322 (P := (nI cr) ≤ (nI cr)) (r := []) rfl (tgt := 343) (by decide) (fun h322 => ?_) (fun h322 => ?_)
        · skip
          have g322 : cr ≤ cr := (nI_leI (a := cr) (b := cr) (by omega) (by omega)).mp h322
          refine XG.blk tX9_count_ok 156 1 (pc' := 344) (pl' := [some (.ref 0), some (.int what), some (.int (ovA (a 54) cr)), some (.int (nI cr))]) (st' := [(.int (ovA (a 54) cr))]) (W1 := (mW v0 a0 b)) (bs := []) rfl rfl rfl ?_
          refine XS.iret eX9_count_344 rfl rfl ?_
          exact ⟨_, _, rfl, Qs.c hv0 ha0, by unfold qCount; rw [swF_in 18 h7 rfl (Nat.le_of_ble_eq_true rfl)]⟩
        · exfalso
          have g322 : ¬ cr ≤ cr := (fun z => h322 ((nI_leI (a := cr) (b := cr) (by omega) (by omega)).mpr z))
          omega
      · intro i hi ihi
        have q88 : (v0 18) = (nI lv) := hlv0
        have q89 : (a0 31) = (a 31) := ha0 ▸ rfl
        have q90 : (nI lv).toNatClampNeg = lv := nI_clamp (by omega)
        have q91 : ((a 31) lv) = (nI cr) := hcr
        refine XG.blk tX9_count_ok 138 6 (pc' := 322) (pl' := [some (.ref 0), some (.int what), some (.int (ovA (a 54) i)), some (.int (nI i))]) (st' := [(.int ((a0 31) (v0 18).toNatClampNeg)), (.int (nI i))]) (W1 := (mW v0 a0 b)) (bs := [px_vb (v0 18) 2]) rfl rfl (by (try simp only [q88, q89, q90, q91]); exact (px_all (px_vbN (by omega) (by decide)) rfl)) ?_
        simp only [q88, q89, q90, q91]
        refine XG.br eX9_count_322 (P := (nI cr) ≤ (nI i)) (r := []) rfl (tgt := 343) (by decide) (fun h322 => ?_) (fun h322 => ?_)
        · exfalso
          have g322 : cr ≤ i := (nI_leI (a := cr) (b := i) (by omega) (by omega)).mp h322
          omega
        · skip
          have g322 : ¬ cr ≤ i := (fun z => h322 ((nI_leI (a := cr) (b := i) (by omega) (by omega)).mpr z))
          have q92 : ((nI 23) + (nI i)) = (nI (23 + i)) := px_eadd rfl rfl
          have q93 : (a0 55) = (a 54) := hK9.2.2.1
          have q94 : (nI (23 + i)).toNatClampNeg = (23 + i) := nI_clamp (by omega)
          have q95 : ((nI i) + (nI 1)) = (nI (i + 1)) := px_eadd rfl rfl
          refine XG.blk tX9_count_ok 145 10 (pc' := 340) (pl' := [some (.ref 0), some (.int what), some (.int ((ovA (a 54) i) + ((a0 55) ((nI 23) + (nI i)).toNatClampNeg))), some (.int ((nI i) + (nI 1)))]) (st' := []) (W1 := (mW v0 a0 b)) (bs := [px_vb ((nI 23) + (nI i)) 32]) rfl rfl (by (try simp only [q92, q93, q94, q95]); exact (px_all (px_vbN (by omega) (by decide)) rfl)) ?_
          simp only [q92, q93, q94, q95]
          refine XG.goto eX9_count_340 (tgt := 312) (by decide) ?_
          exact ihi
def bgR (a : Nat → Nat → Int32) (lv sl : Nat) : Nat → Int32 := nbF (a 25) lv sl (itN (fun c r => upd r (18 + c) (-2)) (itN (fun x r => upd r (12 + x) (a 28 (6 * lv + x))) (fun _ => nI 0) sl) 5)
set_option maxHeartbeats 400000 in
theorem con_begins (d : Nat) (v : Nat → Int32) (a : Nat → Nat → Int32) (b : Nat → Nat → Int64) (lv sp sl cr : Nat) (I : MI v a lv sp sl cr) (hd : 1 ≤ d) : Con mX9_begins d [.ref 0] (mW v a b) (fun r W' => W' = mW (va_up (va_up v 56 (a 37 lv)) 57 (nI 0)) (va_up a 55 (bgR a lv sl)) b ∧ r = none) := by
  obtain ⟨hlv, hlv2, hsp, hsp1, hsp2, hsl, hsl2, hcr, hcr2⟩ := id I
  refine Con.of (by decide) (Nat.le_of_ble_eq_true rfl) ?_
  refine XG.blk tX9_begins_ok 0 2 (pc' := 2) (pl' := [some (.ref 0), some (.int (nI 0))]) (st' := []) (W1 := (mW v a b)) (bs := []) rfl rfl rfl ?_
  rw [show mW v a b = mW v (va_up a 55 (zF (a 55) 0)) b by rw [zF_0, va_up_id]]
  refine px_for 32 (fun i => XG mX9_begins _ 0 0 2 [some (.ref 0), some (.int (nI i))] [] (mW v (va_up a 55 (zF (a 55) i)) b)) ?_ ?_ 0 (Nat.zero_le _)
  · skip
    refine XG.blk tX9_begins_ok 2 2 (pc' := 5) (pl' := [some (.ref 0), some (.int (nI 32))]) (st' := [(.int (nI 32)), (.int (nI 32))]) (W1 := (mW v (va_up a 55 (zF (a 55) 32)) b)) (bs := []) rfl rfl rfl ?_
    refine XG.br eX9_begins_5 (P := (nI 32) ≤ (nI 32)) (r := []) rfl (tgt := 21) (by decide) (fun h5 => ?_) (fun h5 => ?_)
    · skip
      have g5 : 32 ≤ 32 := (nI_leI (a := 32) (b := 32) (by omega) (by omega)).mp h5
      refine XG.ext1 38 rfl (g := fun _ => nI 0) (fun j hj => if_pos hj) ?_
      show XG _ _ _ _ 21 _ _ (mW v (va_up a 55 (fun _ => nI 0)) b)
      refine XG.blk tX9_begins_ok 12 2 (pc' := 23) (pl' := [some (.ref 0), some (.int (nI 0))]) (st' := []) (W1 := (mW v (va_up a 55 (fun _ => nI 0)) b)) (bs := []) rfl rfl rfl ?_
      refine px_for sl (fun i => XG mX9_begins _ 0 0 23 [some (.ref 0), some (.int (nI i))] [] (mW v (va_up a 55 (itN (fun x r => upd r (12 + x) (a 28 (6 * lv + x))) (fun _ => nI 0) i)) b)) ?_ ?_ 0 (Nat.zero_le _)
      · skip
        have q1 : (v 18) = (nI lv) := hlv
        have q2 : (nI lv).toNatClampNeg = lv := nI_clamp (by omega)
        have q3 : ((a 24) lv) = (nI sl) := hsl
        refine XG.blk tX9_begins_ok 14 6 (pc' := 33) (pl' := [some (.ref 0), some (.int (nI sl))]) (st' := [(.int ((a 24) (v 18).toNatClampNeg)), (.int (nI sl))]) (W1 := (mW v (va_up a 55 (itN (fun x r => upd r (12 + x) (a 28 (6 * lv + x))) (fun _ => nI 0) sl)) b)) (bs := [px_vb (v 18) 2]) rfl rfl (by (try simp only [q1, q2, q3]); exact (px_all (px_vbN (by omega) (by decide)) rfl)) ?_
        simp only [q1, q2, q3]
        refine XG.br eX9_begins_33 (P := (nI sl) ≤ (nI sl)) (r := []) rfl (tgt := 65) (by decide) (fun h33 => ?_) (fun h33 => ?_)
        · skip
          have g33 : sl ≤ sl := (nI_leI (a := sl) (b := sl) (by omega) (by omega)).mp h33
          refine XG.blk tX9_begins_ok 38 2 (pc' := 67) (pl' := [some (.ref 0), some (.int (nI 0))]) (st' := []) (W1 := (mW v (va_up a 55 (itN (fun x r => upd r (12 + x) (a 28 (6 * lv + x))) (fun _ => nI 0) sl)) b)) (bs := []) rfl rfl rfl ?_
          refine px_for 5 (fun i => XG mX9_begins _ 0 0 67 [some (.ref 0), some (.int (nI i))] [] (mW v (va_up a 55 (itN (fun c r => upd r (18 + c) (-2)) (itN (fun x r => upd r (12 + x) (a 28 (6 * lv + x))) (fun _ => nI 0) sl) i)) b)) ?_ ?_ 0 (Nat.zero_le _)
          · skip
            refine XG.blk tX9_begins_ok 40 2 (pc' := 69) (pl' := [some (.ref 0), some (.int (nI 5))]) (st' := [(.int (nI 5)), (.int (nI 5))]) (W1 := (mW v (va_up a 55 (itN (fun c r => upd r (18 + c) (-2)) (itN (fun x r => upd r (12 + x) (a 28 (6 * lv + x))) (fun _ => nI 0) sl) 5)) b)) (bs := []) rfl rfl rfl ?_
            refine XG.br eX9_begins_69 (P := (nI 5) ≤ (nI 5)) (r := []) rfl (tgt := 89) (by decide) (fun h69 => ?_) (fun h69 => ?_)
            · skip
              have g69 : 5 ≤ 5 := (nI_leI (a := 5) (b := 5) (by omega) (by omega)).mp h69
              refine XG.blk tX9_begins_ok 52 1 (pc' := 90) (pl' := [some (.ref 0), some (.int (nI 5))]) (st' := [(.ref 0)]) (W1 := (mW v (va_up a 55 (itN (fun c r => upd r (18 + c) (-2)) (itN (fun x r => upd r (12 + x) (a 28 (6 * lv + x))) (fun _ => nI 0) sl) 5)) b)) (bs := []) rfl rfl rfl ?_
              refine XG.callV0 eX9_begins_90 kl_X9_335 (con_nightBegins (d - 1) v (va_up a 55 (itN (fun c r => upd r (18 + c) (-2)) (itN (fun x r => upd r (12 + x) (a 28 (6 * lv + x))) (fun _ => nI 0) sl) 5)) b lv sp sl cr I) (px_fitS (by omega)) rfl rfl rfl (Nat.le_of_ble_eq_true rfl) (fun r9 W9 hp9 hl9 => ?_)
              obtain ⟨rfl, rfl⟩ := hp9
              show XG _ _ _ _ _ _ _ (mW v (va_up a 55 (bgR a lv sl)) b)
              have q4 : (v 18) = (nI lv) := hlv
              have q5 : (nI lv).toNatClampNeg = lv := nI_clamp (by omega)
              refine XG.blk tX9_begins_ok 54 10 (pc' := 111) (pl' := [some (.ref 0), some (.int (nI 5))]) (st' := []) (W1 := (mW (va_up (va_up v 56 ((a 37) (v 18).toNatClampNeg)) 57 (nI 0)) (va_up a 55 (bgR a lv sl)) b)) (bs := [px_vb (v 18) 2, ((nI 0) == 0 || (nI 0) == 1)]) rfl rfl (by (try simp only [q4, q5]); exact (px_all (px_vbN (by omega) (by decide)) (px_all (rfl) rfl))) ?_
              simp only [q4, q5]
              refine XS.vret eX9_begins_111 rfl ?_
              exact ⟨rfl, rfl⟩
            · exfalso
              have g69 : ¬ 5 ≤ 5 := (fun z => h69 ((nI_leI (a := 5) (b := 5) (by omega) (by omega)).mpr z))
              omega
          · intro i hi ihi
            refine XG.blk tX9_begins_ok 40 2 (pc' := 69) (pl' := [some (.ref 0), some (.int (nI i))]) (st' := [(.int (nI 5)), (.int (nI i))]) (W1 := (mW v (va_up a 55 (itN (fun c r => upd r (18 + c) (-2)) (itN (fun x r => upd r (12 + x) (a 28 (6 * lv + x))) (fun _ => nI 0) sl) i)) b)) (bs := []) rfl rfl rfl ?_
            refine XG.br eX9_begins_69 (P := (nI 5) ≤ (nI i)) (r := []) rfl (tgt := 89) (by decide) (fun h69 => ?_) (fun h69 => ?_)
            · exfalso
              have g69 : 5 ≤ i := (nI_leI (a := 5) (b := i) (by omega) (by omega)).mp h69
              omega
            · skip
              have g69 : ¬ 5 ≤ i := (fun z => h69 ((nI_leI (a := 5) (b := i) (by omega) (by omega)).mpr z))
              have q6 : ((nI 18) + (nI i)) = (nI (18 + i)) := px_eadd rfl rfl
              have q7 : (nI (18 + i)).toNatClampNeg = (18 + i) := nI_clamp (by omega)
              have q8 : ((nI i) + (nI 1)) = (nI (i + 1)) := px_eadd rfl rfl
              refine XG.blk tX9_begins_ok 43 8 (pc' := 86) (pl' := [some (.ref 0), some (.int ((nI i) + (nI 1)))]) (st' := []) (W1 := (mW v (va_up a 55 (upd (itN (fun c r => upd r (18 + c) (-2)) (itN (fun x r => upd r (12 + x) (a 28 (6 * lv + x))) (fun _ => nI 0) sl) i) ((nI 18) + (nI i)).toNatClampNeg (-2))) b)) (bs := [px_vb ((nI 18) + (nI i)) 32]) rfl rfl (by (try simp only [q6, q7, q8]); exact (px_all (px_vbN (by omega) (by decide)) rfl)) ?_
              simp only [q6, q7, q8]
              refine XG.goto eX9_begins_86 (tgt := 67) (by decide) ?_
              exact ihi
        · exfalso
          have g33 : ¬ sl ≤ sl := (fun z => h33 ((nI_leI (a := sl) (b := sl) (by omega) (by omega)).mpr z))
          omega
      · intro i hi ihi
        have q9 : (v 18) = (nI lv) := hlv
        have q10 : (nI lv).toNatClampNeg = lv := nI_clamp (by omega)
        have q11 : ((a 24) lv) = (nI sl) := hsl
        refine XG.blk tX9_begins_ok 14 6 (pc' := 33) (pl' := [some (.ref 0), some (.int (nI i))]) (st' := [(.int ((a 24) (v 18).toNatClampNeg)), (.int (nI i))]) (W1 := (mW v (va_up a 55 (itN (fun x r => upd r (12 + x) (a 28 (6 * lv + x))) (fun _ => nI 0) i)) b)) (bs := [px_vb (v 18) 2]) rfl rfl (by (try simp only [q9, q10, q11]); exact (px_all (px_vbN (by omega) (by decide)) rfl)) ?_
        simp only [q9, q10, q11]
        refine XG.br eX9_begins_33 (P := (nI sl) ≤ (nI i)) (r := []) rfl (tgt := 65) (by decide) (fun h33 => ?_) (fun h33 => ?_)
        · exfalso
          have g33 : sl ≤ i := (nI_leI (a := sl) (b := i) (by omega) (by omega)).mp h33
          omega
        · skip
          have g33 : ¬ sl ≤ i := (fun z => h33 ((nI_leI (a := sl) (b := i) (by omega) (by omega)).mpr z))
          have q12 : ((nI 12) + (nI i)) = (nI (12 + i)) := px_eadd rfl rfl
          have q13 : (v 18) = (nI lv) := hlv
          have q14 : ((nI 6) * (nI lv)) = (nI (6 * lv)) := px_emul rfl rfl
          have q15 : ((nI (6 * lv)) + (nI i)) = (nI ((6 * lv) + i)) := px_eadd rfl rfl
          have q16 : (nI ((6 * lv) + i)).toNatClampNeg = ((6 * lv) + i) := nI_clamp (by omega)
          have q17 : (nI (12 + i)).toNatClampNeg = (12 + i) := nI_clamp (by omega)
          have q18 : ((nI i) + (nI 1)) = (nI (i + 1)) := px_eadd rfl rfl
          refine XG.blk tX9_begins_ok 21 16 (pc' := 62) (pl' := [some (.ref 0), some (.int ((nI i) + (nI 1)))]) (st' := []) (W1 := (mW v (va_up a 55 (upd (itN (fun x r => upd r (12 + x) (a 28 (6 * lv + x))) (fun _ => nI 0) i) ((nI 12) + (nI i)).toNatClampNeg ((a 28) (((nI 6) * (v 18)) + (nI i)).toNatClampNeg))) b)) (bs := [px_vb (((nI 6) * (v 18)) + (nI i)) 12, px_vb ((nI 12) + (nI i)) 32]) rfl rfl (by (try simp only [q12, q13, q14, q15, q16, q17, q18]); exact (px_all (px_vbN (by omega) (by decide)) (px_all (px_vbN (by omega) (by decide)) rfl))) ?_
          simp only [q12, q13, q14, q15, q16, q17, q18]
          refine XG.goto eX9_begins_62 (tgt := 23) (by decide) ?_
          exact ihi
    · exfalso
      have g5 : ¬ 32 ≤ 32 := (fun z => h5 ((nI_leI (a := 32) (b := 32) (by omega) (by omega)).mpr z))
      omega
  · intro i hi ihi
    refine XG.blk tX9_begins_ok 2 2 (pc' := 5) (pl' := [some (.ref 0), some (.int (nI i))]) (st' := [(.int (nI 32)), (.int (nI i))]) (W1 := (mW v (va_up a 55 (zF (a 55) i)) b)) (bs := []) rfl rfl rfl ?_
    refine XG.br eX9_begins_5 (P := (nI 32) ≤ (nI i)) (r := []) rfl (tgt := 21) (by decide) (fun h5 => ?_) (fun h5 => ?_)
    · exfalso
      have g5 : 32 ≤ i := (nI_leI (a := 32) (b := i) (by omega) (by omega)).mp h5
      omega
    · skip
      have g5 : ¬ 32 ≤ i := (fun z => h5 ((nI_leI (a := 32) (b := i) (by omega) (by omega)).mpr z))
      have q19 : (nI i).toNatClampNeg = i := nI_clamp (by omega)
      have q20 : ((nI i) + (nI 1)) = (nI (i + 1)) := px_eadd rfl rfl
      refine XG.blk tX9_begins_ok 5 6 (pc' := 18) (pl' := [some (.ref 0), some (.int ((nI i) + (nI 1)))]) (st' := []) (W1 := (mW v (va_up a 55 (upd (zF (a 55) i) (nI i).toNatClampNeg (nI 0))) b)) (bs := [px_vb (nI i) 32]) rfl rfl (by (try simp only [q19, q20]); exact (px_all (px_vbN (by omega) (by decide)) rfl)) ?_
      simp only [q19, q20]
      refine XG.goto eX9_begins_18 (tgt := 2) (by decide) ?_
      rw [zF_s]; exact ihi
