/-! THE LAW: its loop -/
theorem sub6 {L : Nat} (h : L ≤ 3072) : (nI L - nI 6).toInt = (L : Int) - 6 := by
  by_cases h6 : 6 ≤ L
  · rw [show nI L - nI 6 = nI (L - 6) from px_esub rfl rfl h6, nI_toInt (by omega)]
    omega
  · rcases (show L = 0 ∨ L = 1 ∨ L = 2 ∨ L = 3 ∨ L = 4 ∨ L = 5 by omega) with rfl | rfl | rfl | rfl | rfl | rfl <;> decide
set_option maxRecDepth 100000 in
set_option maxHeartbeats 1000000 in
theorem lw_end {L : Nat} {xs : Nat → Int32} (hL : L ≤ 3072) (k : Nat) (hk : k = L / 6) (W0 : px_W) : XG mL_law (px_gL L xs) 131 22130 18 [some (.ref 1000), some (.ref 0), some (.ref 82), some (.int (nI (6 * k)))] [] W0 := by
  have e6 : (nI L - nI 6).toInt = (L : Int) - 6 := sub6 hL
  have ek : (nI (6 * k)).toInt = ((6 * k : Nat) : Int) := nI_toInt (by omega)
  refine XG.blk tL_law_ok 10 2 (pc' := 20) (pl' := [some (.ref 1000), some (.ref 0), some (.ref 82), some (.int (nI (6 * k)))]) (st' := [(.ref 1000), (.int (nI (6 * k)))]) (W1 := _) (bs := []) rfl rfl rfl ?_
  refine XG.slenL dL_20 ?_
  refine XG.blk tL_law_ok 13 2 (pc' := 24) (pl' := [some (.ref 1000), some (.ref 0), some (.ref 82), some (.int (nI (6 * k)))]) (st' := [(.int (nI L - nI 6)), (.int (nI (6 * k)))]) (W1 := _) (bs := []) rfl rfl rfl ?_
  refine XG.br eL_law_24 (P := nI L - nI 6 < nI (6 * k)) (r := []) rfl (tgt := 1027) (by decide) (fun _ => ?_) (fun h => absurd (Int32.lt_iff_toInt_lt.mpr (by rw [e6, ek]; omega)) h)
  refine XG.blk tL_law_ok 679 1 (pc' := 1028) (pl' := [some (.ref 1000), some (.ref 0), some (.ref 82), some (.int (nI (6 * k)))]) (st' := [(.int (nI 1))]) (W1 := _) (bs := []) rfl rfl rfl ?_
  exact XG.retL eL_law_1028 (by decide) (by decide)
set_option maxRecDepth 100000 in
set_option maxHeartbeats 4000000 in
theorem lw_step {L : Nat} {xs : Nat → Int32} (hL : L ≤ 3072) (k : Nat) (hk : 6 * k + 6 ≤ L) (W0 : px_W) (hI : LI (24 * k) W0) (kk : ∀ W1, LI (24 * k + 24) W1 → XG mL_law (px_gL L xs) 131 22130 1021 [some (.ref 1000), some (.ref 0), some (.ref 82), some (.int (nI (6 * k)))] [] W1) : XG mL_law (px_gL L xs) 131 22130 18 [some (.ref 1000), some (.ref 0), some (.ref 82), some (.int (nI (6 * k)))] [] W0 := by
  have e6 : (nI L - nI 6).toInt = (L : Int) - 6 := sub6 hL
  have ek : (nI (6 * k)).toInt = ((6 * k : Nat) : Int) := nI_toInt (by omega)
  refine XG.blk tL_law_ok 10 2 (pc' := 20) (pl' := [some (.ref 1000), some (.ref 0), some (.ref 82), some (.int (nI (6 * k)))]) (st' := [(.ref 1000), (.int (nI (6 * k)))]) (W1 := _) (bs := []) rfl rfl rfl ?_
  refine XG.slenL dL_20 ?_
  refine XG.blk tL_law_ok 13 2 (pc' := 24) (pl' := [some (.ref 1000), some (.ref 0), some (.ref 82), some (.int (nI (6 * k)))]) (st' := [(.int (nI L - nI 6)), (.int (nI (6 * k)))]) (W1 := _) (bs := []) rfl rfl rfl ?_
  refine XG.br eL_law_24 (P := nI L - nI 6 < nI (6 * k)) (r := []) rfl (tgt := 1027) (by decide) (fun h => absurd (Int32.lt_iff_toInt_lt.mp h) (by rw [e6, ek]; omega)) (fun _ => ?_)
  refine XG.blk tL_law_ok 16 2 (pc' := 29) (pl' := [some (.ref 1000), some (.ref 0), some (.ref 82), some (.int (nI (6 * k)))]) (st' := [(.int (nI (6 * k))), (.ref 1000)]) (W1 := _) (bs := []) rfl rfl rfl ?_
  refine XG.sldX (j := 6 * k) rfl (by omega) hL dL_29 ?_
  refine XG.blk tL_law_ok 19 2 (pc' := 33) (pl' := [some (.ref 1000), some (.ref 0), some (.ref 82), some (.int (nI (6 * k)))]) (st' := [(.int (xs (6 * k) &&& nI 31))]) (W1 := _) (bs := []) rfl rfl rfl ?_
  refine XG.tsw eL_law_33 (td := 1021) (by decide) (tg := [172, 235, 258, 271, 284, 317, 350, 383, 416, 439, 462, 495, 518, 541, 554, 567, 636, 659, 682, 715, 738, 761, 784, 807, 850, 883, 896, 929, 952, 975, 998]) (by decide) (by decide) (fun _ => kk W0 (hI.mono (by omega))) (fun j t hj _ => ?_)
  have hlj : j < 31 := (List.getElem?_eq_some_iff.mp hj).1
  rcases (show j = 0 ∨ j = 1 ∨ j = 2 ∨ j = 3 ∨ j = 4 ∨ j = 5 ∨ j = 6 ∨ j = 7 ∨ j = 8 ∨ j = 9 ∨ j = 10 ∨ j = 11 ∨ j = 12 ∨ j = 13 ∨ j = 14 ∨ j = 15 ∨ j = 16 ∨ j = 17 ∨ j = 18 ∨ j = 19 ∨ j = 20 ∨ j = 21 ∨ j = 22 ∨ j = 23 ∨ j = 24 ∨ j = 25 ∨ j = 26 ∨ j = 27 ∨ j = 28 ∨ j = 29 ∨ j = 30 by omega) with rfl | rfl | rfl | rfl | rfl | rfl | rfl | rfl | rfl | rfl | rfl | rfl | rfl | rfl | rfl | rfl | rfl | rfl | rfl | rfl | rfl | rfl | rfl | rfl | rfl | rfl | rfl | rfl | rfl | rfl | rfl
  · cases hj; exact lc_feed hL k hk W0 hI kk
  · cases hj; exact lc_back hL k hk W0 hI kk
  · cases hj; exact lc_read hL k hk W0 hI kk
  · cases hj; exact lc_place hL k hk W0 hI kk
  · cases hj; exact lc_sleeper hL k hk W0 hI kk
  · cases hj; exact lc_crosser hL k hk W0 hI kk
  · cases hj; exact lc_span hL k hk W0 hI kk
  · cases hj; exact lc_tells hL k hk W0 hI kk
  · cases hj; exact lc_dreams hL k hk W0 hI kk
  · cases hj; exact lc_send hL k hk W0 hI kk
  · cases hj; exact lc_lay hL k hk W0 hI kk
  · cases hj; exact lc_lull hL k hk W0 hI kk
  · cases hj; exact lc_hours hL k hk W0 hI kk
  · cases hj; exact lc_night hL k hk W0 hI kk
  · cases hj; exact lc_undo hL k hk W0 hI kk
  · cases hj; exact lc_then hL k hk W0 hI kk
  · cases hj; exact lc_weakest hL k hk W0 hI kk
  · cases hj; exact lc_better hL k hk W0 hI kk
  · cases hj; exact lc_cheap hL k hk W0 hI kk
  · cases hj; exact lc_order hL k hk W0 hI kk
  · cases hj; exact lc_soon hL k hk W0 hI kk
  · cases hj; exact lc_start hL k hk W0 hI kk
  · cases hj; exact lc_missed hL k hk W0 hI kk
  · cases hj; exact lc_year hL k hk W0 hI kk
  · cases hj; exact lc_tell hL k hk W0 hI kk
  · cases hj; exact lc_forget hL k hk W0 hI kk
  · cases hj; exact lc_awake hL k hk W0 hI kk
  · cases hj; exact lc_ask hL k hk W0 hI kk
  · cases hj; exact lc_hold hL k hk W0 hI kk
  · cases hj; exact lc_restore hL k hk W0 hI kk
  · cases hj; exact lc_count hL k hk W0 hI kk
set_option maxRecDepth 100000 in
set_option maxHeartbeats 1000000 in
theorem lw_loop {L : Nat} {xs : Nat → Int32} (hL : L ≤ 3072) : ∀ (m k : Nat) (W0 : px_W), k + m = L / 6 → LI (24 * k) W0 → XG mL_law (px_gL L xs) 131 22130 18 [some (.ref 1000), some (.ref 0), some (.ref 82), some (.int (nI (6 * k)))] [] W0 := by
  intro m
  induction m with
  | zero => intro k W0 hk hI; exact lw_end hL k (by omega) W0
  | succ m ih =>
    intro k W0 hk hI
    refine lw_step hL k (by omega) W0 hI (fun W1 hI1 => ?_)
    refine XG.blk tL_law_ok 677 1 (pc' := 1024) (pl' := [some (.ref 1000), some (.ref 0), some (.ref 82), some (.int (nI (6 * k) + nI 6))]) (st' := []) (W1 := _) (bs := []) rfl rfl rfl ?_
    rw [show nI (6 * k) + nI 6 = nI (6 * (k + 1)) from px_eadd rfl rfl]
    refine XG.goto eL_law_1024 (tgt := 18) (by decide) ?_
    exact ih (k + 1) W1 (by omega) hI1
