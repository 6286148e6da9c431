set_option maxHeartbeats 400000 in
theorem con_toldInt (d : Nat) (v : Nat → Int32) (a : Nat → Nat → Int32) (b : Nat → Nat → Int64) (K : TKS) (hT : Tok K a b) (s : PT) (h : PVr K (.inr s) v) (hk : K.1 s.1 ≠ 0) (lo hi : Nat) (hlo : lo < 2 ^ 31) (hhi : hi < 2 ^ 31) (hd : 4 ≤ d) : Con mX9_toldInt d [.ref 0, .int (nI lo), .int (nI hi)] (mW v a b) (fun q W' => ∃ v' x, W' = mW v' a b ∧ chg [11, 13, 14, 15, 16] v v' ∧ PVr K (bd (bd (advS s) (bndS K lo hi)) (mstS K 4)) v' ∧ q = some (.int x) ∧ ∀ s1 s2, advS s = .inr s1 → bndS K lo hi s1 = .inr s2 → x = nI (K.2.2.1 s1.1)) := by
  obtain ⟨ht, h11⟩ : s.1 ≤ 400 ∧ v 11 = nI s.1 := ⟨h.1, h.2.1⟩
  refine Con.of (by decide) (Nat.le_of_ble_eq_true rfl) ?_
  refine XG.blk tX9_toldInt_ok 0 1 (pc' := 1) (pl' := [some (.ref 0), some (.int (nI lo)), some (.int (nI hi)), none]) (st' := [(.ref 0)]) (W1 := (mW v a b)) (bs := []) rfl rfl rfl ?_
  refine XG.callV0 eX9_toldInt_1 kl_X9_236 (con_goesOn (d - 1) v a b s.1 h11 (by omega) (by omega)) (px_fitS (by omega)) rfl rfl rfl (Nat.le_of_ble_eq_true rfl) (fun r9 W9 hp9 hl9 => ?_)
  obtain ⟨rfl, rfl⟩ := hp9
  have hP0 := h.go hT hk
  have hc0 := goV_chg (v := v) (f := a 6) (t := s.1)
  generalize goV v (a 6) s.1 = v0 at hP0 hc0 ⊢
  skip
  refine XG.blk tX9_toldInt_ok 2 3 (pc' := 7) (pl' := [some (.ref 0), some (.int (nI lo)), some (.int (nI hi)), none]) (st' := [(.int (nI hi)), (.int (nI lo)), (.ref 0)]) (W1 := (mW v0 a b)) (bs := []) rfl rfl rfl ?_
  refine XG.callV0 eX9_toldInt_7 kl_X9_273 (con_bounded (d - 1) v0 a b K hT (advS s) hP0 lo hi (by omega) (by omega) (by omega)) (px_fitS (by omega)) rfl rfl rfl (Nat.le_of_ble_eq_true rfl) (fun r9 W9 hp9 hl9 => ?_)
  obtain ⟨v1, x1, rfl, hc1, hP1, rfl, hx1⟩ := hp9
  refine XG.blk tX9_toldInt_ok 6 3 (pc' := 13) (pl' := [some (.ref 0), some (.int (nI lo)), some (.int (nI hi)), some (.int x1)]) (st' := [(.int (nI 4)), (.ref 0)]) (W1 := (mW v1 a b)) (bs := []) rfl rfl rfl ?_
  refine XG.callV0 eX9_toldInt_13 kl_X9_277 (con_must (d - 1) v1 a b K hT (bd (advS s) (bndS K lo hi)) hP1 4 (by omega) (by omega) (by omega)) (px_fitS (by omega)) rfl rfl rfl (Nat.le_of_ble_eq_true rfl) (fun r9 W9 hp9 hl9 => ?_)
  obtain ⟨v2, rfl, hc2, hP2, rfl⟩ := hp9
  refine XG.blk tX9_toldInt_ok 10 1 (pc' := 17) (pl' := [some (.ref 0), some (.int (nI lo)), some (.int (nI hi)), some (.int x1)]) (st' := [(.int x1)]) (W1 := (mW v2 a b)) (bs := []) rfl rfl rfl ?_
  refine XS.iret eX9_toldInt_17 rfl rfl ?_
  exact ⟨_, _, rfl, (hc0.mono (by decide)).tr (hc1.tr (hc2.mono (by decide))), hP2, rfl, hx1⟩
set_option maxHeartbeats 400000 in
theorem con_roomFor (d : Nat) (v : Nat → Int32) (a : Nat → Nat → Int32) (b : Nat → Nat → Int64) (K : TKS) (hT : Tok K a b) (s : PT) (h : PVr K (.inr s) v) (hk : K.1 s.1 ≠ 0) (x y : Nat) (hx : x < 2 ^ 31) (hy : y < 2 ^ 31) (hd : 2 ≤ d) : Con mX9_roomFor d [.ref 0, .int (nI x), .int (nI y)] (mW v a b) (fun q W' => ∃ v', W' = mW v' a b ∧ chg [11, 13, 14] v v' ∧ PVr K (if x = y then .inl (2, s.1) else advS s) v' ∧ q = none) := by
  obtain ⟨ht, h11⟩ : s.1 ≤ 400 ∧ v 11 = nI s.1 := ⟨h.1, h.2.1⟩
  refine Con.of (by decide) (Nat.le_of_ble_eq_true rfl) ?_
  refine XG.blk tX9_roomFor_ok 0 2 (pc' := 2) (pl' := [some (.ref 0), some (.int (nI x)), some (.int (nI y))]) (st' := [(.int (nI y)), (.int (nI x))]) (W1 := (mW v a b)) (bs := []) rfl rfl rfl ?_
  refine XG.br eX9_roomFor_2 (P := ¬ (nI x) = (nI y)) (r := []) rfl (tgt := 10) (by decide) (fun h2 => ?_) (fun h2 => ?_)
  · skip
    have g2 : ¬ x = y := (fun z => h2 ((nI_eq (a := x) (b := y) (by omega) (by omega)).mpr z))
    refine XG.blk tX9_roomFor_ok 6 2 (pc' := 14) (pl' := [some (.ref 0), some (.int (nI x)), some (.int (nI y))]) (st' := [(.int (v 13))]) (W1 := (mW v a b)) (bs := []) rfl rfl rfl ?_
    refine XG.br eX9_roomFor_14 (P := ¬ (v 13) = 0) (r := []) rfl (tgt := 21) (by decide) (fun h14 => ?_) (fun h14 => ?_)
    · skip
      refine XS.vret eX9_roomFor_21 rfl ?_
      rw [if_neg g2]
      exact absurd h.2.2.1 h14
    · skip
      have h14 := Decidable.not_not.mp h14
      refine XG.blk tX9_roomFor_ok 9 1 (pc' := 18) (pl' := [some (.ref 0), some (.int (nI x)), some (.int (nI y))]) (st' := [(.ref 0)]) (W1 := (mW v a b)) (bs := []) rfl rfl rfl ?_
      refine XG.callV0 eX9_roomFor_18 kl_X9_236 (con_goesOn (d - 1) v a b s.1 h11 (by omega) (by omega)) (px_fitS (by omega)) rfl rfl rfl (Nat.le_of_ble_eq_true rfl) (fun r9 W9 hp9 hl9 => ?_)
      obtain ⟨rfl, rfl⟩ := hp9
      refine XS.vret eX9_roomFor_21 rfl ?_
      rw [if_neg g2]
      exact ⟨_, rfl, goV_chg, h.go hT hk, rfl⟩
  · skip
    have h2 := Decidable.not_not.mp h2
    have g2 : x = y := (nI_eq (a := x) (b := y) (by omega) (by omega)).mp h2
    refine XG.blk tX9_roomFor_ok 3 2 (pc' := 7) (pl' := [some (.ref 0), some (.int (nI x)), some (.int (nI y))]) (st' := [(.int (nI 2)), (.ref 0)]) (W1 := (mW v a b)) (bs := []) rfl rfl rfl ?_
    refine XG.callV0 eX9_roomFor_7 kl_X9_230 (con_fail (d - 1) v a b s.1 h11 (by omega) (nI 2)) (px_fitS (by omega)) rfl rfl rfl (Nat.le_of_ble_eq_true rfl) (fun r9 W9 hp9 hl9 => ?_)
    obtain ⟨rfl, rfl⟩ := hp9
    refine XG.blk tX9_roomFor_ok 6 2 (pc' := 14) (pl' := [some (.ref 0), some (.int (nI x)), some (.int (nI y))]) (st' := [(.int ((failV v (a 6) s.1 (nI 2)) 13))]) (W1 := (mW (failV v (a 6) s.1 (nI 2)) a b)) (bs := []) rfl rfl rfl ?_
    refine XG.br eX9_roomFor_14 (P := ¬ ((failV v (a 6) s.1 (nI 2)) 13) = 0) (r := []) rfl (tgt := 21) (by decide) (fun h14 => ?_) (fun h14 => ?_)
    · skip
      refine XS.vret eX9_roomFor_21 rfl ?_
      rw [if_pos g2]
      exact ⟨_, rfl, failV_chg, h.fail hT (Or.inr rfl), rfl⟩
    · exfalso
      have h14 := Decidable.not_not.mp h14
      rw [(h.fail hT (k := 2) (Or.inr rfl)).2.1] at h14; exact nI_nz (k := 2) (by decide) (by decide) h14
