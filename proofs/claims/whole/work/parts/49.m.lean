/-! the reference: send, lay, lull, hours -/
/-- the night is now R, what it was is kept -/
def Nw (v v' : Nat → Int32) (a a' : Nat → Nat → Int32) (u : Nat) (R : Nat → Int32) : Prop := chg (61 :: qV) v v' ∧ chg (54 :: 62 :: qA) a a' ∧ v' 61 = nI (kU u + 1) ∧ a' 62 = kH (a 62) u (a 54) ∧ a' 54 = R
theorem Qs.row {v v0 : Nat → Int32} {a a0 : Nat → Nat → Int32} (h : Qs v v0 a a0) {R : Nat → Int32} : Qs v v0 a (va_up a0 55 R) := ⟨h.1, h.2.tr (chg.up (by decide))⟩
theorem Nw.of {v v0 : Nat → Int32} {a a0 : Nat → Nat → Int32} {u : Nat} {R : Nat → Int32} (h : Qs v v0 a a0) (h62 : a0 62 = a 62) (h54 : a0 54 = a 54) : Nw v (va_up v0 61 (nI (kU u + 1))) a (va_up (va_up a0 62 (kH (a0 62) u (a0 54))) 54 R) u R := by
  refine ⟨(h.1.mono (by decide)).tr (chg.up (by decide)), (h.2.mono (by decide)).tr ((chg.up (by decide)).tr (chg.up (by decide))), rfl, ?_, rfl⟩
  show kH (a0 62) u (a0 54) = _
  rw [h62, h54]
set_option maxHeartbeats 400000 in
theorem con_send (d : Nat) (v : Nat → Int32) (a : Nat → Nat → Int32) (b : Nat → Nat → Int64) (lv sp sl cr : Nat) (I : MI v a lv sp sl cr) (hwf : wf3 a lv) (u : Nat) (hu : v 61 = nI u) (hu2 : u ≤ 40) (p : Int32) (hd : 3 ≤ d) : Con mX9_send d [.ref 0, .int p] (mW v a b) (fun r W' => ∃ v' a', W' = mW v' a' b ∧ (((px_vb p cr = true ∧ a 54 (18 + p.toNatClampNeg) = -2) ∧ Nw v v' a a' u (upd (a 54) (18 + p.toNatClampNeg) (-3)) ∧ r = some (.int 1)) ∨ (¬ ((px_vb p cr = true ∧ a 54 (18 + p.toNatClampNeg) = -2)) ∧ Qs v v' a a' ∧ r = some (.int 0)))) := by
  obtain ⟨hlv, hlv2, hsp, hsp1, hsp2, hsl, hsl2, hcr, hcr2⟩ := id I
  refine Con.of (by decide) (Nat.le_of_ble_eq_true rfl) ?_
  by_cases hp : px_vb p cr = true
  · obtain ⟨x, hx, rfl⟩ := px_vb_ex hp (by omega)
    simp only [nI_clamp (show x < 2 ^ 31 by omega)]
    refine XG.blk tX9_send_ok 0 2 (pc' := 2) (pl' := [some (.ref 0), some (.int (nI x))]) (st' := [(.int (nI x)), (.ref 0)]) (W1 := (mW v a b)) (bs := []) rfl rfl rfl ?_
    refine XG.callV0 eX9_send_2 kl_X9_403 (con_isCrosser (d - 1) v a b (nI x) lv sp sl cr I (by omega)) (px_fitS (by omega)) rfl rfl rfl (Nat.le_of_ble_eq_true rfl) (fun r9 W9 hp9 hl9 => ?_)
    obtain ⟨rfl, rfl⟩ := hp9
    refine XG.br eX9_send_5 (P := (if px_vb (nI x) cr = true then 1 else 0) = 0) (r := []) rfl (tgt := 22) (by decide) (fun h5 => ?_) (fun h5 => ?_)
    · exfalso
      exact (one_ne.mp h5) hp
    · skip
      have q1 : ((nI 18) + (nI x)) = (nI (18 + x)) := px_eadd rfl rfl
      have q2 : (nI (18 + x)).toNatClampNeg = (18 + x) := nI_clamp (by omega)
      refine XG.blk tX9_send_ok 4 7 (pc' := 19) (pl' := [some (.ref 0), some (.int (nI x))]) (st' := [(.int (-2)), (.int ((a 54) ((nI 18) + (nI x)).toNatClampNeg))]) (W1 := (mW v a b)) (bs := [px_vb ((nI 18) + (nI x)) 32]) rfl rfl (by (try simp only [q1, q2]); exact (px_all (px_vbN (by omega) (by decide)) rfl)) ?_
      simp only [q1, q2]
      refine XG.br eX9_send_19 (P := ((a 54) (18 + x)) = (-2)) (r := []) rfl (tgt := 24) (by decide) (fun h19 => ?_) (fun h19 => ?_)
      · skip
        refine XG.blk tX9_send_ok 14 1 (pc' := 25) (pl' := [some (.ref 0), some (.int (nI x))]) (st' := [(.ref 0)]) (W1 := (mW v a b)) (bs := []) rfl rfl rfl ?_
        refine XG.callV0 eX9_send_25 kl_X9_400 (con_copQ (d - 1) v a b lv sp sl cr I) (px_fitS (by omega)) rfl rfl rfl (Nat.le_of_ble_eq_true rfl) (fun r9 W9 hp9 hl9 => ?_)
        obtain ⟨rfl, rfl⟩ := hp9
        have q3 : ((nI 18) + (nI x)) = (nI (18 + x)) := px_eadd rfl rfl
        have q4 : ((aQ a) 55) = (a 54) := rfl
        have q5 : (nI (18 + x)).toNatClampNeg = (18 + x) := nI_clamp (by omega)
        refine XG.blk tX9_send_ok 16 8 (pc' := 40) (pl' := [some (.ref 0), some (.int (nI x))]) (st' := [(.ref 0)]) (W1 := (mW (vQ v a lv 0) (va_up (aQ a) 55 (upd ((aQ a) 55) ((nI 18) + (nI x)).toNatClampNeg (-3))) b)) (bs := [px_vb ((nI 18) + (nI x)) 32]) rfl rfl (by (try simp only [q3, q4, q5]); exact (px_all (px_vbN (by omega) (by decide)) rfl)) ?_
        simp only [q3, q4, q5]
        refine XG.callV0 eX9_send_40 kl_X9_412 (con_keeps (d - 1) (vQ v a lv 0) (va_up (aQ a) 55 (upd (a 54) (18 + x) (-3))) b u hu hu2 (by omega)) (px_fitS (by omega)) rfl rfl rfl (Nat.le_of_ble_eq_true rfl) (fun r9 W9 hp9 hl9 => ?_)
        obtain ⟨rfl, rfl⟩ := hp9
        refine XG.blk tX9_send_ok 25 1 (pc' := 44) (pl' := [some (.ref 0), some (.int (nI x))]) (st' := [(.int (nI 1))]) (W1 := (mW (va_up (vQ v a lv 0) 61 (nI (kU u + 1))) (va_up (va_up (va_up (aQ a) 55 (upd (a 54) (18 + x) (-3))) 62 (kH ((va_up (aQ a) 55 (upd (a 54) (18 + x) (-3))) 62) u ((va_up (aQ a) 55 (upd (a 54) (18 + x) (-3))) 54))) 54 ((va_up (aQ a) 55 (upd (a 54) (18 + x) (-3))) 55)) b)) (bs := []) rfl rfl rfl ?_
        refine XS.iret eX9_send_44 rfl (by decide) ?_
        exact ⟨_, _, rfl, Or.inl ⟨⟨hp, h19⟩, Nw.of (Qs.row (Qs.c rfl rfl)) rfl rfl, rfl⟩⟩
      · skip
        refine XG.blk tX9_send_ok 12 1 (pc' := 23) (pl' := [some (.ref 0), some (.int (nI x))]) (st' := [(.int (nI 0))]) (W1 := (mW v a b)) (bs := []) rfl rfl rfl ?_
        refine XS.iret eX9_send_23 rfl (by decide) ?_
        exact ⟨_, _, rfl, Or.inr ⟨fun hc => h19 hc.2, Qs.rf, rfl⟩⟩
  · skip
    refine XG.blk tX9_send_ok 0 2 (pc' := 2) (pl' := [some (.ref 0), some (.int p)]) (st' := [(.int p), (.ref 0)]) (W1 := (mW v a b)) (bs := []) rfl rfl rfl ?_
    refine XG.callV0 eX9_send_2 kl_X9_403 (con_isCrosser (d - 1) v a b p lv sp sl cr I (by omega)) (px_fitS (by omega)) rfl rfl rfl (Nat.le_of_ble_eq_true rfl) (fun r9 W9 hp9 hl9 => ?_)
    obtain ⟨rfl, rfl⟩ := hp9
    refine XG.br eX9_send_5 (P := (if px_vb p cr = true then 1 else 0) = 0) (r := []) rfl (tgt := 22) (by decide) (fun h5 => ?_) (fun h5 => ?_)
    · skip
      refine XG.blk tX9_send_ok 12 1 (pc' := 23) (pl' := [some (.ref 0), some (.int p)]) (st' := [(.int (nI 0))]) (W1 := (mW v a b)) (bs := []) rfl rfl rfl ?_
      refine XS.iret eX9_send_23 rfl (by decide) ?_
      exact ⟨_, _, rfl, Or.inr ⟨fun hc => hp hc.1, Qs.rf, rfl⟩⟩
    · exfalso
      exact absurd (vb_of h5) hp
set_option maxHeartbeats 400000 in
theorem con_lay (d : Nat) (v : Nat → Int32) (a : Nat → Nat → Int32) (b : Nat → Nat → Int64) (lv sp sl cr : Nat) (I : MI v a lv sp sl cr) (hwf : wf3 a lv) (u : Nat) (hu : v 61 = nI u) (hu2 : u ≤ 40) (p y : Int32) (hd : 3 ≤ d) : Con mX9_lay d [.ref 0, .int p, .int y] (mW v a b) (fun r W' => ∃ v' a', W' = mW v' a' b ∧ ((((px_vb p sl = true ∧ px_vb y sp = true) ∧ ¬ a 54 (12 + p.toNatClampNeg) = y) ∧ Nw v v' a a' u (upd (a 54) (12 + p.toNatClampNeg) y) ∧ r = some (.int 1)) ∨ (¬ (((px_vb p sl = true ∧ px_vb y sp = true) ∧ ¬ a 54 (12 + p.toNatClampNeg) = y)) ∧ Qs v v' a a' ∧ r = some (.int 0)))) := by
  obtain ⟨hlv, hlv2, hsp, hsp1, hsp2, hsl, hsl2, hcr, hcr2⟩ := id I
  refine Con.of (by decide) (Nat.le_of_ble_eq_true rfl) ?_
  by_cases hp : px_vb p sl = true ∧ px_vb y sp = true
  · obtain ⟨x, hx, rfl⟩ := px_vb_ex hp.1 (by omega)
    simp only [nI_clamp (show x < 2 ^ 31 by omega)]
    refine XG.blk tX9_lay_ok 0 2 (pc' := 2) (pl' := [some (.ref 0), some (.int (nI x)), some (.int y)]) (st' := [(.int (nI x)), (.ref 0)]) (W1 := (mW v a b)) (bs := []) rfl rfl rfl ?_
    refine XG.callV0 eX9_lay_2 kl_X9_397 (con_isSleeper (d - 1) v a b (nI x) lv sp sl cr I (by omega)) (px_fitS (by omega)) rfl rfl rfl (Nat.le_of_ble_eq_true rfl) (fun r9 W9 hp9 hl9 => ?_)
    obtain ⟨rfl, rfl⟩ := hp9
    refine XG.br eX9_lay_5 (P := (if px_vb (nI x) sl = true then 1 else 0) = 0) (r := []) rfl (tgt := 29) (by decide) (fun h5 => ?_) (fun h5 => ?_)
    · exfalso
      first | exact (one_ne.mp h5) hp.1 | exact (one_ne.mp h13) hp.2
    · skip
      refine XG.blk tX9_lay_ok 4 2 (pc' := 10) (pl' := [some (.ref 0), some (.int (nI x)), some (.int y)]) (st' := [(.int y), (.ref 0)]) (W1 := (mW v a b)) (bs := []) rfl rfl rfl ?_
      refine XG.callV0 eX9_lay_10 kl_X9_406 (con_isSpan (d - 1) v a b y lv sp sl cr I (by omega)) (px_fitS (by omega)) rfl rfl rfl (Nat.le_of_ble_eq_true rfl) (fun r9 W9 hp9 hl9 => ?_)
      obtain ⟨rfl, rfl⟩ := hp9
      refine XG.br eX9_lay_13 (P := (if px_vb y sp = true then 1 else 0) = 0) (r := []) rfl (tgt := 29) (by decide) (fun h13 => ?_) (fun h13 => ?_)
      · exfalso
        first | exact (one_ne.mp h5) hp.1 | exact (one_ne.mp h13) hp.2
      · skip
        have q1 : ((nI 12) + (nI x)) = (nI (12 + x)) := px_eadd rfl rfl
        have q2 : (nI (12 + x)).toNatClampNeg = (12 + x) := nI_clamp (by omega)
        refine XG.blk tX9_lay_ok 8 7 (pc' := 26) (pl' := [some (.ref 0), some (.int (nI x)), some (.int y)]) (st' := [(.int y), (.int ((a 54) ((nI 12) + (nI x)).toNatClampNeg))]) (W1 := (mW v a b)) (bs := [px_vb ((nI 12) + (nI x)) 32]) rfl rfl (by (try simp only [q1, q2]); exact (px_all (px_vbN (by omega) (by decide)) rfl)) ?_
        simp only [q1, q2]
        refine XG.br eX9_lay_26 (P := ¬ ((a 54) (12 + x)) = y) (r := []) rfl (tgt := 31) (by decide) (fun h26 => ?_) (fun h26 => ?_)
        · skip
          refine XG.blk tX9_lay_ok 18 1 (pc' := 32) (pl' := [some (.ref 0), some (.int (nI x)), some (.int y)]) (st' := [(.ref 0)]) (W1 := (mW v a b)) (bs := []) rfl rfl rfl ?_
          refine XG.callV0 eX9_lay_32 kl_X9_400 (con_copQ (d - 1) v a b lv sp sl cr I) (px_fitS (by omega)) rfl rfl rfl (Nat.le_of_ble_eq_true rfl) (fun r9 W9 hp9 hl9 => ?_)
          obtain ⟨rfl, rfl⟩ := hp9
          have q3 : ((nI 12) + (nI x)) = (nI (12 + x)) := px_eadd rfl rfl
          have q4 : ((aQ a) 55) = (a 54) := rfl
          have q5 : (nI (12 + x)).toNatClampNeg = (12 + x) := nI_clamp (by omega)
          refine XG.blk tX9_lay_ok 20 8 (pc' := 46) (pl' := [some (.ref 0), some (.int (nI x)), some (.int y)]) (st' := [(.ref 0)]) (W1 := (mW (vQ v a lv 0) (va_up (aQ a) 55 (upd ((aQ a) 55) ((nI 12) + (nI x)).toNatClampNeg y)) b)) (bs := [px_vb ((nI 12) + (nI x)) 32]) rfl rfl (by (try simp only [q3, q4, q5]); exact (px_all (px_vbN (by omega) (by decide)) rfl)) ?_
          simp only [q3, q4, q5]
          refine XG.callV0 eX9_lay_46 kl_X9_412 (con_keeps (d - 1) (vQ v a lv 0) (va_up (aQ a) 55 (upd (a 54) (12 + x) y)) b u hu hu2 (by omega)) (px_fitS (by omega)) rfl rfl rfl (Nat.le_of_ble_eq_true rfl) (fun r9 W9 hp9 hl9 => ?_)
          obtain ⟨rfl, rfl⟩ := hp9
          refine XG.blk tX9_lay_ok 29 1 (pc' := 50) (pl' := [some (.ref 0), some (.int (nI x)), some (.int y)]) (st' := [(.int (nI 1))]) (W1 := (mW (va_up (vQ v a lv 0) 61 (nI (kU u + 1))) (va_up (va_up (va_up (aQ a) 55 (upd (a 54) (12 + x) y)) 62 (kH ((va_up (aQ a) 55 (upd (a 54) (12 + x) y)) 62) u ((va_up (aQ a) 55 (upd (a 54) (12 + x) y)) 54))) 54 ((va_up (aQ a) 55 (upd (a 54) (12 + x) y)) 55)) b)) (bs := []) rfl rfl rfl ?_
          refine XS.iret eX9_lay_50 rfl (by decide) ?_
          exact ⟨_, _, rfl, Or.inl ⟨⟨hp, h26⟩, Nw.of (Qs.row (Qs.c rfl rfl)) rfl rfl, rfl⟩⟩
        · skip
          have h26 := Decidable.not_not.mp h26
          refine XG.blk tX9_lay_ok 16 1 (pc' := 30) (pl' := [some (.ref 0), some (.int (nI x)), some (.int y)]) (st' := [(.int (nI 0))]) (W1 := (mW v a b)) (bs := []) rfl rfl rfl ?_
          refine XS.iret eX9_lay_30 rfl (by decide) ?_
          exact ⟨_, _, rfl, Or.inr ⟨fun hc => hc.2 h26, Qs.rf, rfl⟩⟩
  · skip
    refine XG.blk tX9_lay_ok 0 2 (pc' := 2) (pl' := [some (.ref 0), some (.int p), some (.int y)]) (st' := [(.int p), (.ref 0)]) (W1 := (mW v a b)) (bs := []) rfl rfl rfl ?_
    refine XG.callV0 eX9_lay_2 kl_X9_397 (con_isSleeper (d - 1) v a b p lv sp sl cr I (by omega)) (px_fitS (by omega)) rfl rfl rfl (Nat.le_of_ble_eq_true rfl) (fun r9 W9 hp9 hl9 => ?_)
    obtain ⟨rfl, rfl⟩ := hp9
    refine XG.br eX9_lay_5 (P := (if px_vb p sl = true then 1 else 0) = 0) (r := []) rfl (tgt := 29) (by decide) (fun h5 => ?_) (fun h5 => ?_)
    · skip
      refine XG.blk tX9_lay_ok 16 1 (pc' := 30) (pl' := [some (.ref 0), some (.int p), some (.int y)]) (st' := [(.int (nI 0))]) (W1 := (mW v a b)) (bs := []) rfl rfl rfl ?_
      refine XS.iret eX9_lay_30 rfl (by decide) ?_
      exact ⟨_, _, rfl, Or.inr ⟨fun hc => hp hc.1, Qs.rf, rfl⟩⟩
    · skip
      refine XG.blk tX9_lay_ok 4 2 (pc' := 10) (pl' := [some (.ref 0), some (.int p), some (.int y)]) (st' := [(.int y), (.ref 0)]) (W1 := (mW v a b)) (bs := []) rfl rfl rfl ?_
      refine XG.callV0 eX9_lay_10 kl_X9_406 (con_isSpan (d - 1) v a b y lv sp sl cr I (by omega)) (px_fitS (by omega)) rfl rfl rfl (Nat.le_of_ble_eq_true rfl) (fun r9 W9 hp9 hl9 => ?_)
      obtain ⟨rfl, rfl⟩ := hp9
      refine XG.br eX9_lay_13 (P := (if px_vb y sp = true then 1 else 0) = 0) (r := []) rfl (tgt := 29) (by decide) (fun h13 => ?_) (fun h13 => ?_)
      · skip
        refine XG.blk tX9_lay_ok 16 1 (pc' := 30) (pl' := [some (.ref 0), some (.int p), some (.int y)]) (st' := [(.int (nI 0))]) (W1 := (mW v a b)) (bs := []) rfl rfl rfl ?_
        refine XS.iret eX9_lay_30 rfl (by decide) ?_
        exact ⟨_, _, rfl, Or.inr ⟨fun hc => hp hc.1, Qs.rf, rfl⟩⟩
      · skip
        exact absurd ⟨vb_of h5, vb_of h13⟩ hp
def lullR (a : Nat → Nat → Int32) (x : Nat) : Nat → Int32 := upd (upd (a 54) (6 + x) (nI 0)) x (heldF (upd (a 54) (6 + x) (nI 0) x - nI 9) (nI 0) (nI 99))
set_option maxHeartbeats 400000 in
theorem con_lull (d : Nat) (v : Nat → Int32) (a : Nat → Nat → Int32) (b : Nat → Nat → Int64) (lv sp sl cr : Nat) (I : MI v a lv sp sl cr) (hwf : wf3 a lv) (u : Nat) (hu : v 61 = nI u) (hu2 : u ≤ 40) (p : Int32) (hd : 3 ≤ d) : Con mX9_lull d [.ref 0, .int p] (mW v a b) (fun r W' => ∃ v' a', W' = mW v' a' b ∧ ((px_vb p sl = true ∧ ¬ a 54 (6 + p.toNatClampNeg) = 0 ∧ a 54 28 < a 35 lv ∧ Nw v v' a a' u (lullR a p.toNatClampNeg) ∧ r = some (.int (lullR a p.toNatClampNeg p.toNatClampNeg))) ∨ (¬ (px_vb p sl = true ∧ ¬ a 54 (6 + p.toNatClampNeg) = 0 ∧ a 54 28 < a 35 lv) ∧ Qs v v' a a' ∧ r = some (.int (if px_vb p sl = true then -2 else -1))))) := by
  obtain ⟨hlv, hlv2, hsp, hsp1, hsp2, hsl, hsl2, hcr, hcr2⟩ := id I
  refine Con.of (by decide) (Nat.le_of_ble_eq_true rfl) ?_
  by_cases hp : px_vb p sl = true
  · obtain ⟨x, hx, rfl⟩ := px_vb_ex hp (by omega)
    simp only [nI_clamp (show x < 2 ^ 31 by omega)]
    refine XG.blk tX9_lull_ok 0 2 (pc' := 2) (pl' := [some (.ref 0), some (.int (nI x))]) (st' := [(.int (nI x)), (.ref 0)]) (W1 := (mW v a b)) (bs := []) rfl rfl rfl ?_
    refine XG.callV0 eX9_lull_2 kl_X9_397 (con_isSleeper (d - 1) v a b (nI x) lv sp sl cr I (by omega)) (px_fitS (by omega)) rfl rfl rfl (Nat.le_of_ble_eq_true rfl) (fun r9 W9 hp9 hl9 => ?_)
    obtain ⟨rfl, rfl⟩ := hp9
    refine XG.br eX9_lull_5 (P := ¬ (if px_vb (nI x) sl = true then 1 else 0) = 0) (r := []) rfl (tgt := 10) (by decide) (fun h5 => ?_) (fun h5 => ?_)
    · skip
      refine XG.blk tX9_lull_ok 6 1 (pc' := 11) (pl' := [some (.ref 0), some (.int (nI x))]) (st' := [(.ref 0)]) (W1 := (mW v a b)) (bs := []) rfl rfl rfl ?_
      refine XG.callV0 eX9_lull_11 kl_X9_400 (con_copQ (d - 1) v a b lv sp sl cr I) (px_fitS (by omega)) rfl rfl rfl (Nat.le_of_ble_eq_true rfl) (fun r9 W9 hp9 hl9 => ?_)
      obtain ⟨rfl, rfl⟩ := hp9
      refine XG.blk tX9_lull_ok 8 2 (pc' := 16) (pl' := [some (.ref 0), some (.int (nI x))]) (st' := [(.int (nI x)), (.ref 0)]) (W1 := (mW (vQ v a lv 0) (aQ a) b)) (bs := []) rfl rfl rfl ?_
      refine XG.callV0 eX9_lull_16 kl_X9_348 (con_isAsleep (d - 1) (vQ v a lv 0) (aQ a) b x (by omega) lv sp sl cr I) (px_fitS (by omega)) rfl rfl rfl (Nat.le_of_ble_eq_true rfl) (fun r9 W9 hp9 hl9 => ?_)
      obtain ⟨rfl, rfl⟩ := hp9
      refine XG.br eX9_lull_19 (P := ¬ (if slp (a 54) (a 35 lv) x then 1 else 0) = 0) (r := []) rfl (tgt := 41) (by decide) (fun h19 => ?_) (fun h19 => ?_)
      · skip
        refine XG.blk tX9_lull_ok 22 1 (pc' := 43) (pl' := [some (.ref 0), some (.int (nI x))]) (st' := [(.int (-2))]) (W1 := (mW (vQ v a lv 0) (aQ a) b)) (bs := []) rfl rfl rfl ?_
        refine XS.iret eX9_lull_43 rfl rfl ?_
        exact ⟨_, _, rfl, Or.inr ⟨fun hc => hc.2.1 (Decidable.not_not.mp (fun z => h19 (one_ne.mpr z))).1, Qs.c rfl rfl, by rw [if_pos hp]⟩⟩
      · skip
        have h19 := Decidable.not_not.mp h19
        have q1 : ((aQ a) 55) = (a 54) := rfl
        have q2 : (nI 28).toNatClampNeg = 28 := nI_clamp (by omega)
        have q3 : ((vQ v a lv 0) 18) = (nI lv) := hlv
        have q4 : ((aQ a) 35) = (a 35) := rfl
        have q5 : (nI lv).toNatClampNeg = lv := nI_clamp (by omega)
        refine XG.blk tX9_lull_ok 12 9 (pc' := 38) (pl' := [some (.ref 0), some (.int (nI x))]) (st' := [(.int (((aQ a) 35) ((vQ v a lv 0) 18).toNatClampNeg)), (.int (((aQ a) 55) (nI 28).toNatClampNeg))]) (W1 := (mW (vQ v a lv 0) (aQ a) b)) (bs := [px_vb (nI 28) 32, px_vb ((vQ v a lv 0) 18) 2]) rfl rfl (by (try simp only [q1, q2, q3, q4, q5]); exact (px_all (px_vbN (by omega) (by decide)) (px_all (px_vbN (by omega) (by decide)) rfl))) ?_
        simp only [q1, q2, q3, q4, q5]
        refine XG.br eX9_lull_38 (P := ((a 54) 28) < ((a 35) lv)) (r := []) rfl (tgt := 44) (by decide) (fun h38 => ?_) (fun h38 => ?_)
        · skip
          have q6 : ((nI 6) + (nI x)) = (nI (6 + x)) := px_eadd rfl rfl
          have q7 : ((aQ a) 55) = (a 54) := rfl
          have q8 : (nI (6 + x)).toNatClampNeg = (6 + x) := nI_clamp (by omega)
          have q9 : (nI x).toNatClampNeg = x := nI_clamp (by omega)
          refine XG.blk tX9_lull_ok 24 18 (pc' := 71) (pl' := [some (.ref 0), some (.int (nI x))]) (st' := [(.int (nI 99)), (.int (nI 0)), (.int (((upd ((aQ a) 55) ((nI 6) + (nI x)).toNatClampNeg (nI 0)) (nI x).toNatClampNeg) - (nI 9))), (.int (nI x)), (.ref 38)]) (W1 := (mW (vQ v a lv 0) (va_up (aQ a) 55 (upd ((aQ a) 55) ((nI 6) + (nI x)).toNatClampNeg (nI 0))) b)) (bs := [px_vb ((nI 6) + (nI x)) 32, px_vb (nI x) 32]) rfl rfl (by (try simp only [q6, q7, q8, q9]); exact (px_all (px_vbN (by omega) (by decide)) (px_all (px_vbN (by omega) (by decide)) rfl))) ?_
          simp only [q6, q7, q8, q9]
          refine XG.callSp (r := some (.int (heldF (((upd (a 54) (6 + x) (nI 0)) x) - (nI 9)) (nI 0) (nI 99)))) eX9_lull_71 kl_X9_363 (con_held (d - 1) (((upd (a 54) (6 + x) (nI 0)) x) - (nI 9)) (nI 0) (nI 99)) (px_fitS (by omega)) rfl rfl rfl rfl (Nat.le_of_ble_eq_true rfl) ?_
          have q10 : (nI x).toNatClampNeg = x := nI_clamp (by omega)
          refine XG.blk tX9_lull_ok 43 2 (pc' := 76) (pl' := [some (.ref 0), some (.int (nI x))]) (st' := [(.ref 0)]) (W1 := (mW (vQ v a lv 0) (va_up (aQ a) 55 (upd (upd (a 54) (6 + x) (nI 0)) (nI x).toNatClampNeg (heldF (((upd (a 54) (6 + x) (nI 0)) x) - (nI 9)) (nI 0) (nI 99)))) b)) (bs := [px_vb (nI x) 32]) rfl rfl (by (try simp only [q10]); exact (px_all (px_vbN (by omega) (by decide)) rfl)) ?_
          simp only [q10]
          refine XG.callV0 eX9_lull_76 kl_X9_412 (con_keeps (d - 1) (vQ v a lv 0) (va_up (aQ a) 55 (upd (upd (a 54) (6 + x) (nI 0)) x (heldF (((upd (a 54) (6 + x) (nI 0)) x) - (nI 9)) (nI 0) (nI 99)))) b u hu hu2 (by omega)) (px_fitS (by omega)) rfl rfl rfl (Nat.le_of_ble_eq_true rfl) (fun r9 W9 hp9 hl9 => ?_)
          obtain ⟨rfl, rfl⟩ := hp9
          have q11 : (nI x).toNatClampNeg = x := nI_clamp (by omega)
          refine XG.blk tX9_lull_ok 46 4 (pc' := 85) (pl' := [some (.ref 0), some (.int (nI x))]) (st' := [(.int (((va_up (aQ a) 55 (upd (upd (a 54) (6 + x) (nI 0)) x (heldF (((upd (a 54) (6 + x) (nI 0)) x) - (nI 9)) (nI 0) (nI 99)))) 55) (nI x).toNatClampNeg))]) (W1 := (mW (va_up (vQ v a lv 0) 61 (nI (kU u + 1))) (va_up (va_up (va_up (aQ a) 55 (upd (upd (a 54) (6 + x) (nI 0)) x (heldF (((upd (a 54) (6 + x) (nI 0)) x) - (nI 9)) (nI 0) (nI 99)))) 62 (kH ((va_up (aQ a) 55 (upd (upd (a 54) (6 + x) (nI 0)) x (heldF (((upd (a 54) (6 + x) (nI 0)) x) - (nI 9)) (nI 0) (nI 99)))) 62) u ((va_up (aQ a) 55 (upd (upd (a 54) (6 + x) (nI 0)) x (heldF (((upd (a 54) (6 + x) (nI 0)) x) - (nI 9)) (nI 0) (nI 99)))) 54))) 54 ((va_up (aQ a) 55 (upd (upd (a 54) (6 + x) (nI 0)) x (heldF (((upd (a 54) (6 + x) (nI 0)) x) - (nI 9)) (nI 0) (nI 99)))) 55)) b)) (bs := [px_vb (nI x) 32]) rfl rfl (by (try simp only [q11]); exact (px_all (px_vbN (by omega) (by decide)) rfl)) ?_
          simp only [q11]
          refine XS.iret eX9_lull_85 rfl rfl ?_
          exact ⟨_, _, rfl, Or.inl ⟨hp, fun z => (one_ne.mp h19) ⟨z, h38⟩, h38, Nw.of (Qs.row (Qs.c rfl rfl)) rfl rfl, rfl⟩⟩
        · skip
          refine XG.blk tX9_lull_ok 22 1 (pc' := 43) (pl' := [some (.ref 0), some (.int (nI x))]) (st' := [(.int (-2))]) (W1 := (mW (vQ v a lv 0) (aQ a) b)) (bs := []) rfl rfl rfl ?_
          refine XS.iret eX9_lull_43 rfl rfl ?_
          exact ⟨_, _, rfl, Or.inr ⟨fun hc => h38 hc.2.2, Qs.c rfl rfl, by rw [if_pos hp]⟩⟩
    · exfalso
      have h5 := Decidable.not_not.mp h5
      exact (one_ne.mp h5) hp
  · skip
    refine XG.blk tX9_lull_ok 0 2 (pc' := 2) (pl' := [some (.ref 0), some (.int p)]) (st' := [(.int p), (.ref 0)]) (W1 := (mW v a b)) (bs := []) rfl rfl rfl ?_
    refine XG.callV0 eX9_lull_2 kl_X9_397 (con_isSleeper (d - 1) v a b p lv sp sl cr I (by omega)) (px_fitS (by omega)) rfl rfl rfl (Nat.le_of_ble_eq_true rfl) (fun r9 W9 hp9 hl9 => ?_)
    obtain ⟨rfl, rfl⟩ := hp9
    refine XG.br eX9_lull_5 (P := ¬ (if px_vb p sl = true then 1 else 0) = 0) (r := []) rfl (tgt := 10) (by decide) (fun h5 => ?_) (fun h5 => ?_)
    · exfalso
      exact absurd (vb_of h5) hp
    · skip
      have h5 := Decidable.not_not.mp h5
      refine XG.blk tX9_lull_ok 4 1 (pc' := 9) (pl' := [some (.ref 0), some (.int p)]) (st' := [(.int (-1))]) (W1 := (mW v a b)) (bs := []) rfl rfl rfl ?_
      refine XS.iret eX9_lull_9 rfl rfl ?_
      exact ⟨_, _, rfl, Or.inr ⟨fun hc => hp hc.1, Qs.rf, by rw [if_neg hp]⟩⟩
abbrev hoursR (v : Nat → Int32) (a : Nat → Nat → Int32) (lv sp sl cr n : Nat) : Nat → Int32 := snR (vQ v a lv 0) (aQ a) lv sp sl cr (a 54) n
set_option maxHeartbeats 400000 in
theorem con_hours (d : Nat) (v : Nat → Int32) (a : Nat → Nat → Int32) (b : Nat → Nat → Int64) (lv sp sl cr : Nat) (I : MI v a lv sp sl cr) (hwf : wf3 a lv) (u : Nat) (hu : v 61 = nI u) (hu2 : u ≤ 40) (p : Int32) (hd : 9 ≤ d) : Con mX9_hours d [.ref 0, .int p] (mW v a b) (fun r W' => ∃ v' a', W' = mW v' a' b ∧ ((((nI 0 ≤ p ∧ p ≤ nI 24) ∧ ¬ p = 0) ∧ Nw v v' a a' u (hoursR v a lv sp sl cr p.toNatClampNeg) ∧ r = some (.int (hoursR v a lv sp sl cr p.toNatClampNeg 28))) ∨ (¬ ((nI 0 ≤ p ∧ p ≤ nI 24) ∧ ¬ p = 0) ∧ Qs v v' a a' ∧ r = some (.int (if p = 0 then a 54 28 else -1))))) := by
  obtain ⟨hlv, hlv2, hsp, hsp1, hsp2, hsl, hsl2, hcr, hcr2⟩ := id I
  refine Con.of (by decide) (Nat.le_of_ble_eq_true rfl) ?_
  by_cases hp : nI 0 ≤ p ∧ p ≤ nI 24
  · have hv : px_vb p 25 = true := (px_inR (n := 25) (by decide) (by decide)).mp hp
    obtain ⟨x, hx, rfl⟩ := px_vb_ex hv (by decide)
    simp only [nI_clamp (show x < 2 ^ 31 by omega)]
    refine XG.blk tX9_hours_ok 0 3 (pc' := 4) (pl' := [some (.ref 0), some (.int (nI x))]) (st' := [(.int (nI 24)), (.int (nI 0)), (.int (nI x))]) (W1 := (mW v a b)) (bs := []) rfl rfl rfl ?_
    refine XG.callSp (r := some (.int (if (nI 0) ≤ (nI x) ∧ (nI x) ≤ (nI 24) then 1 else 0))) eX9_hours_4 kl_X9_331 (con_in (d - 1) (nI x) (nI 0) (nI 24)) (px_fitS (by omega)) rfl rfl rfl rfl (Nat.le_of_ble_eq_true rfl) ?_
    refine XG.br eX9_hours_7 (P := ¬ (if (nI 0) ≤ (nI x) ∧ (nI x) ≤ (nI 24) then 1 else 0) = 0) (r := []) rfl (tgt := 12) (by decide) (fun h7 => ?_) (fun h7 => ?_)
    · skip
      refine XG.blk tX9_hours_ok 7 1 (pc' := 13) (pl' := [some (.ref 0), some (.int (nI x))]) (st' := [(.int (nI x))]) (W1 := (mW v a b)) (bs := []) rfl rfl rfl ?_
      refine XG.br eX9_hours_13 (P := ¬ (nI x) = 0) (r := []) rfl (tgt := 24) (by decide) (fun h13 => ?_) (fun h13 => ?_)
      · skip
        have g13x : ¬ x = 0 := (fun z => h13 ((nI_eq (a := x) (b := 0) (by omega) (by omega)).mpr z))
        refine XG.blk tX9_hours_ok 14 1 (pc' := 25) (pl' := [some (.ref 0), some (.int (nI x))]) (st' := [(.ref 0)]) (W1 := (mW v a b)) (bs := []) rfl rfl rfl ?_
        refine XG.callV0 eX9_hours_25 kl_X9_400 (con_copQ (d - 1) v a b lv sp sl cr I) (px_fitS (by omega)) rfl rfl rfl (Nat.le_of_ble_eq_true rfl) (fun r9 W9 hp9 hl9 => ?_)
        obtain ⟨rfl, rfl⟩ := hp9
        refine XG.blk tX9_hours_ok 16 2 (pc' := 30) (pl' := [some (.ref 0), some (.int (nI x))]) (st' := [(.int (nI x)), (.ref 0)]) (W1 := (mW (vQ v a lv 0) (aQ a) b)) (bs := []) rfl rfl rfl ?_
        refine XG.callV0 eX9_hours_30 kl_X9_415 (con_goes (d - 1) (vQ v a lv 0) (vQ v a lv 0) (aQ a) (aQ a) b (a 54) _ kQ lv sp sl cr I (wf3_Q hwf) x (by omega) (by omega)) (px_fitS (by omega)) rfl rfl rfl (Nat.le_of_ble_eq_true rfl) (fun r9 W9 hp9 hl9 => ?_)
        obtain ⟨v21, a21, w21, rfl, hK21, rfl⟩ := hp9
        have hu21 : v21 61 = nI u := (hK21.1 61 (by decide)).trans hu
        have hQ21 := (Qs.c (v := v) (a := a) (lv := lv) (q := 0) rfl rfl).tr (Qs.K hK21)
        refine XG.blk tX9_hours_ok 19 1 (pc' := 34) (pl' := [some (.ref 0), some (.int (nI x))]) (st' := [(.ref 0)]) (W1 := (mW v21 a21 b)) (bs := []) rfl rfl rfl ?_
        refine XG.callV0 eX9_hours_34 kl_X9_412 (con_keeps (d - 1) v21 a21 b u hu21 hu2 (by omega)) (px_fitS (by omega)) rfl rfl rfl (Nat.le_of_ble_eq_true rfl) (fun r9 W9 hp9 hl9 => ?_)
        obtain ⟨rfl, rfl⟩ := hp9
        have q1 : (a21 55) = (hoursR v a lv sp sl cr x) := hK21.2.2.1
        have q2 : (nI 28).toNatClampNeg = 28 := nI_clamp (by omega)
        refine XG.blk tX9_hours_ok 21 4 (pc' := 44) (pl' := [some (.ref 0), some (.int (nI x))]) (st' := [(.int ((a21 55) (nI 28).toNatClampNeg))]) (W1 := (mW (va_up v21 61 (nI (kU u + 1))) (va_up (va_up a21 62 (kH (a21 62) u (a21 54))) 54 (a21 55)) b)) (bs := [px_vb (nI 28) 32]) rfl rfl (by (try simp only [q1, q2]); exact (px_all (px_vbN (by omega) (by decide)) rfl)) ?_
        simp only [q1, q2]
        refine XS.iret eX9_hours_44 rfl rfl ?_
        exact ⟨_, _, rfl, Or.inl ⟨⟨hp, h13⟩, Nw.of hQ21 ((hK21.2.1 62 (by decide)).trans rfl) ((hK21.2.1 54 (by decide)).trans rfl), rfl⟩⟩
      · skip
        have h13 := Decidable.not_not.mp h13
        have g13x : x = 0 := (nI_eq (a := x) (b := 0) (by omega) (by omega)).mp h13
        have q3 : (nI 28).toNatClampNeg = 28 := nI_clamp (by omega)
        refine XG.blk tX9_hours_ok 9 4 (pc' := 23) (pl' := [some (.ref 0), some (.int (nI x))]) (st' := [(.int ((a 54) (nI 28).toNatClampNeg))]) (W1 := (mW v a b)) (bs := [px_vb (nI 28) 32]) rfl rfl (by (try simp only [q3]); exact (px_all (px_vbN (by omega) (by decide)) rfl)) ?_
        simp only [q3]
        refine XS.iret eX9_hours_23 rfl rfl ?_
        exact ⟨_, _, rfl, Or.inr ⟨fun hc => hc.2 h13, Qs.rf, by rw [if_pos h13]⟩⟩
    · exfalso
      have h7 := Decidable.not_not.mp h7
      exact (one_ne.mp h7) hp
  · skip
    refine XG.blk tX9_hours_ok 0 3 (pc' := 4) (pl' := [some (.ref 0), some (.int p)]) (st' := [(.int (nI 24)), (.int (nI 0)), (.int p)]) (W1 := (mW v a b)) (bs := []) rfl rfl rfl ?_
    refine XG.callSp (r := some (.int (if (nI 0) ≤ p ∧ p ≤ (nI 24) then 1 else 0))) eX9_hours_4 kl_X9_331 (con_in (d - 1) p (nI 0) (nI 24)) (px_fitS (by omega)) rfl rfl rfl rfl (Nat.le_of_ble_eq_true rfl) ?_
    refine XG.br eX9_hours_7 (P := ¬ (if (nI 0) ≤ p ∧ p ≤ (nI 24) then 1 else 0) = 0) (r := []) rfl (tgt := 12) (by decide) (fun h7 => ?_) (fun h7 => ?_)
    · exfalso
      exact absurd (Decidable.not_not.mp (fun z => h7 (one_ne.mpr z))) hp
    · skip
      have h7 := Decidable.not_not.mp h7
      refine XG.blk tX9_hours_ok 5 1 (pc' := 11) (pl' := [some (.ref 0), some (.int p)]) (st' := [(.int (-1))]) (W1 := (mW v a b)) (bs := []) rfl rfl rfl ?_
      refine XS.iret eX9_hours_11 rfl rfl ?_
      exact ⟨_, _, rfl, Or.inr ⟨fun hc => hp hc.1, Qs.rf, by rw [if_neg (fun z => hp (by rw [z]; decide))]⟩⟩
