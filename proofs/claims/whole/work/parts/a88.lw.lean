/-! THE LAW: feed, then -/
set_option maxRecDepth 100000 in
set_option maxHeartbeats 4000000 in
theorem lc_feed {L : Nat} {xs : Nat → Int32} (hL : L ≤ 3072) (k : Nat) (hk : 6 * k + 6 ≤ L) (W0 : px_W) (hI : LI (24 * k) W0) (kk : ∀ W1, LI (24 * k + 24) W1 → XG mL_law (px_gL L xs) 131 22130 1021 [some (.ref 1000), some (.ref 0), some (.ref 82), some (.int (nI (6 * k)))] [] W1) : XG mL_law (px_gL L xs) 131 22130 172 [some (.ref 1000), some (.ref 0), some (.ref 82), some (.int (nI (6 * k)))] [] W0 := by
  obtain ⟨ro1, ro2, S, lv, v, a, b, bv, tv, ta, tb, uv, ua, ub, rv, ra, rb, rt9, se, pv, pa, gv, ga, ov, oa, qv, qa, hv, ha, nv, na, yv, ya, cf, cs, h1, h2, hc1, hc2, hdis, iv⟩ := hI
  have hdi2 : ∀ j, j ∈ ro1 → j ∉ ro2 := fun j h w => hdis j w h
  have hs := iv.tx.2.1
  have hr := iv.tx.2.2.1
  obtain ⟨n9, hn9, evn, ern, hT⟩ := iv.tp
  have h1g : px_sub ro1 W0 (sG 1 16 1 bv tv ta tb uv ua ub rv ra rb (px_tr (px_f [31, 32, 33, 34, 35, 36, 16, 17, 18, 19, 20, 21, 22, 23, 24, 25, 26, 27, 28, 29, 30, 1, 2, 3, 4, 5, 6, 7, 8, 9, 10, 11, 12, 13, 14, 15]) rt9) se pv pa gv ga ov oa qv qa hv ha nv na yv ya cf cs) := by rw [← sW_G]; exact h1
  refine XG.blk tL_law_ok 22 5 (pc' := 177) (pl' := [some (.ref 1000), some (.ref 0), some (.ref 82), some (.int (nI (6 * k)))]) (st' := [(.int (nI (6 * k) + nI 1)), (.ref 1000), (.ref 0)]) (W1 := _) (bs := []) rfl rfl rfl ?_
  refine XG.sldX (j := 6 * k + 1) (px_eadd rfl rfl) (by omega) hL dL_177 ?_
  refine XG.blk tL_law_ok 28 4 (pc' := 182) (pl' := [some (.ref 1000), some (.ref 0), some (.ref 82), some (.int (nI (6 * k)))]) (st' := [(.int (nI (6 * k) + nI 2)), (.ref 1000), (.int (xs (6 * k + 1))), (.ref 0)]) (W1 := _) (bs := []) rfl rfl rfl ?_
  refine XG.sldX (j := 6 * k + 2) (px_eadd rfl rfl) (by omega) hL dL_182 ?_
  refine XG.blk tL_law_ok 33 4 (pc' := 187) (pl' := [some (.ref 1000), some (.ref 0), some (.ref 82), some (.int (nI (6 * k)))]) (st' := [(.int (nI (6 * k) + nI 3)), (.ref 1000), (.int (xs (6 * k + 2))), (.int (xs (6 * k + 1))), (.ref 0)]) (W1 := _) (bs := []) rfl rfl rfl ?_
  refine XG.sldX (j := 6 * k + 3) (px_eadd rfl rfl) (by omega) hL dL_187 ?_
  refine XG.blk tL_law_ok 38 4 (pc' := 192) (pl' := [some (.ref 1000), some (.ref 0), some (.ref 82), some (.int (nI (6 * k)))]) (st' := [(.int (nI (6 * k) + nI 4)), (.ref 1000), (.int (xs (6 * k + 3))), (.int (xs (6 * k + 2))), (.int (xs (6 * k + 1))), (.ref 0)]) (W1 := _) (bs := []) rfl rfl rfl ?_
  refine XG.sldX (j := 6 * k + 4) (px_eadd rfl rfl) (by omega) hL dL_192 ?_
  refine XG.blk tL_law_ok 43 4 (pc' := 197) (pl' := [some (.ref 1000), some (.ref 0), some (.ref 82), some (.int (nI (6 * k)))]) (st' := [(.int (nI (6 * k) + nI 5)), (.ref 1000), (.int (xs (6 * k + 4))), (.int (xs (6 * k + 3))), (.int (xs (6 * k + 2))), (.int (xs (6 * k + 1))), (.ref 0)]) (W1 := _) (bs := []) rfl rfl rfl ?_
  refine XG.sldX (j := 6 * k + 5) (px_eadd rfl rfl) (by omega) hL dL_197 ?_
  refine XG.callV (ro := ro1) (W1 := (sG 1 16 1 bv tv ta tb uv ua ub rv ra rb (px_tr (px_f [31, 32, 33, 34, 35, 36, 16, 17, 18, 19, 20, 21, 22, 23, 24, 25, 26, 27, 28, 29, 30, 1, 2, 3, 4, 5, 6, 7, 8, 9, 10, 11, 12, 13, 14, 15]) rt9) se pv pa gv ga ov oa qv qa hv ha nv na yv ya cf cs)) (rest := []) eL_law_198 kl_L_13 (cs_feed 100 bv tv ta tb uv ua ub rv ra rb rt9 se pv pa gv ga ov oa qv qa hv ha nv na yv ya cf cs n9 ern hn9 (xs (6 * k + 1)) (xs (6 * k + 2)) (xs (6 * k + 3)) (xs (6 * k + 4)) (xs (6 * k + 5)) (by decide)) fitL rfl h1g rfl (by rw [hc1]; rfl) (Nat.le_of_ble_eq_true rfl) (fun r9 W9 hp9 hl9 => ?_)
  have h1b := sub_pt h1g hl9
  have h2b := sub_pt2 (ro := ro1) (W1 := W9) h2 hdis
  revert h1b h2b
  generalize px_pt (px_f ro1) ro1 W9 W0 = W2
  intro h1b h2b
  rcases hp9 with ⟨g9, rfl, rfl⟩ | ⟨g9, rfl, rfl⟩
  · skip
    rw [← sW_G] at h1b
    show XG _ _ _ _ 201 [some (.ref 1000), some (.ref 0), some (.ref 82), some (.int (nI (6 * k)))] [(.int (-1))] _
    refine XG.blk tL_law_ok 49 5 (pc' := 206) (pl' := [some (.ref 1000), some (.ref 0), some (.ref 82), some (.int (nI (6 * k)))]) (st' := [(.int (nI (6 * k) + nI 1)), (.ref 1000), (.ref 82), (.int (-1))]) (W1 := _) (bs := []) rfl rfl rfl ?_
    refine XG.sldX (j := 6 * k + 1) (px_eadd rfl rfl) (by omega) hL dL_206 ?_
    refine XG.blk tL_law_ok 55 4 (pc' := 211) (pl' := [some (.ref 1000), some (.ref 0), some (.ref 82), some (.int (nI (6 * k)))]) (st' := [(.int (nI (6 * k) + nI 2)), (.ref 1000), (.int (xs (6 * k + 1))), (.ref 82), (.int (-1))]) (W1 := _) (bs := []) rfl rfl rfl ?_
    refine XG.sldX (j := 6 * k + 2) (px_eadd rfl rfl) (by omega) hL dL_211 ?_
    refine XG.blk tL_law_ok 60 4 (pc' := 216) (pl' := [some (.ref 1000), some (.ref 0), some (.ref 82), some (.int (nI (6 * k)))]) (st' := [(.int (nI (6 * k) + nI 3)), (.ref 1000), (.int (xs (6 * k + 2))), (.int (xs (6 * k + 1))), (.ref 82), (.int (-1))]) (W1 := _) (bs := []) rfl rfl rfl ?_
    refine XG.sldX (j := 6 * k + 3) (px_eadd rfl rfl) (by omega) hL dL_216 ?_
    refine XG.blk tL_law_ok 65 4 (pc' := 221) (pl' := [some (.ref 1000), some (.ref 0), some (.ref 82), some (.int (nI (6 * k)))]) (st' := [(.int (nI (6 * k) + nI 4)), (.ref 1000), (.int (xs (6 * k + 3))), (.int (xs (6 * k + 2))), (.int (xs (6 * k + 1))), (.ref 82), (.int (-1))]) (W1 := _) (bs := []) rfl rfl rfl ?_
    refine XG.sldX (j := 6 * k + 4) (px_eadd rfl rfl) (by omega) hL dL_221 ?_
    refine XG.blk tL_law_ok 70 4 (pc' := 226) (pl' := [some (.ref 1000), some (.ref 0), some (.ref 82), some (.int (nI (6 * k)))]) (st' := [(.int (nI (6 * k) + nI 5)), (.ref 1000), (.int (xs (6 * k + 4))), (.int (xs (6 * k + 3))), (.int (xs (6 * k + 2))), (.int (xs (6 * k + 1))), (.ref 82), (.int (-1))]) (W1 := _) (bs := []) rfl rfl rfl ?_
    refine XG.sldX (j := 6 * k + 5) (px_eadd rfl rfl) (by omega) hL dL_226 ?_
    refine XG.callV (ro := ro2) (W1 := (mW v a b)) (rest := [(.int (-1))]) eL_law_227 kl_L_17 (con_feed 100 v a b n9 evn hn9 (xs (6 * k + 1)) (xs (6 * k + 2)) (xs (6 * k + 3)) (xs (6 * k + 4)) (xs (6 * k + 5)) (by decide)) fitL rfl h2b rfl (by rw [hc2]; rfl) (Nat.le_of_ble_eq_true rfl) (fun r8 W8 hp8 hl8 => ?_)
    have h1c := sub_pt2 (ro := ro2) (W1 := W8) h1b hdi2
    have h2c := sub_pt h2b hl8
    revert h1c h2c
    generalize px_pt (px_f ro2) ro2 W8 W2 = W3
    intro h1c h2c
    rcases hp8 with ⟨g8, rfl, rfl⟩ | ⟨g8, rfl, rfl⟩
    · skip
      show XG _ _ _ _ 230 [some (.ref 1000), some (.ref 0), some (.ref 82), some (.int (nI (6 * k)))] [(.int (-1)), (.int (-1))] _
      refine XG.br eL_law_230 (P := (-1) = (-1)) (r := []) rfl (tgt := 1021) (by decide) (fun _ => kk _ ⟨ro1, ro2, S, lv, _, _, _, _, _, _, _, _, _, _, _, _, _, _, _, _, _, _, _, _, _, _, _, _, _, _, _, _, _, _, _, h1c, h2c, hc1, hc2, hdis, iv.mono (by omega)⟩) (fun h => absurd (rfl) h)
    · skip
      exact absurd g9 (by omega)
  · skip
    rw [← sW_G] at h1b
    show XG _ _ _ _ 201 [some (.ref 1000), some (.ref 0), some (.ref 82), some (.int (nI (6 * k)))] [(.int (nI (n9 + 20)))] _
    refine XG.blk tL_law_ok 49 5 (pc' := 206) (pl' := [some (.ref 1000), some (.ref 0), some (.ref 82), some (.int (nI (6 * k)))]) (st' := [(.int (nI (6 * k) + nI 1)), (.ref 1000), (.ref 82), (.int (nI (n9 + 20)))]) (W1 := _) (bs := []) rfl rfl rfl ?_
    refine XG.sldX (j := 6 * k + 1) (px_eadd rfl rfl) (by omega) hL dL_206 ?_
    refine XG.blk tL_law_ok 55 4 (pc' := 211) (pl' := [some (.ref 1000), some (.ref 0), some (.ref 82), some (.int (nI (6 * k)))]) (st' := [(.int (nI (6 * k) + nI 2)), (.ref 1000), (.int (xs (6 * k + 1))), (.ref 82), (.int (nI (n9 + 20)))]) (W1 := _) (bs := []) rfl rfl rfl ?_
    refine XG.sldX (j := 6 * k + 2) (px_eadd rfl rfl) (by omega) hL dL_211 ?_
    refine XG.blk tL_law_ok 60 4 (pc' := 216) (pl' := [some (.ref 1000), some (.ref 0), some (.ref 82), some (.int (nI (6 * k)))]) (st' := [(.int (nI (6 * k) + nI 3)), (.ref 1000), (.int (xs (6 * k + 2))), (.int (xs (6 * k + 1))), (.ref 82), (.int (nI (n9 + 20)))]) (W1 := _) (bs := []) rfl rfl rfl ?_
    refine XG.sldX (j := 6 * k + 3) (px_eadd rfl rfl) (by omega) hL dL_216 ?_
    refine XG.blk tL_law_ok 65 4 (pc' := 221) (pl' := [some (.ref 1000), some (.ref 0), some (.ref 82), some (.int (nI (6 * k)))]) (st' := [(.int (nI (6 * k) + nI 4)), (.ref 1000), (.int (xs (6 * k + 3))), (.int (xs (6 * k + 2))), (.int (xs (6 * k + 1))), (.ref 82), (.int (nI (n9 + 20)))]) (W1 := _) (bs := []) rfl rfl rfl ?_
    refine XG.sldX (j := 6 * k + 4) (px_eadd rfl rfl) (by omega) hL dL_221 ?_
    refine XG.blk tL_law_ok 70 4 (pc' := 226) (pl' := [some (.ref 1000), some (.ref 0), some (.ref 82), some (.int (nI (6 * k)))]) (st' := [(.int (nI (6 * k) + nI 5)), (.ref 1000), (.int (xs (6 * k + 4))), (.int (xs (6 * k + 3))), (.int (xs (6 * k + 2))), (.int (xs (6 * k + 1))), (.ref 82), (.int (nI (n9 + 20)))]) (W1 := _) (bs := []) rfl rfl rfl ?_
    refine XG.sldX (j := 6 * k + 5) (px_eadd rfl rfl) (by omega) hL dL_226 ?_
    refine XG.callV (ro := ro2) (W1 := (mW v a b)) (rest := [(.int (nI (n9 + 20)))]) eL_law_227 kl_L_17 (con_feed 100 v a b n9 evn hn9 (xs (6 * k + 1)) (xs (6 * k + 2)) (xs (6 * k + 3)) (xs (6 * k + 4)) (xs (6 * k + 5)) (by decide)) fitL rfl h2b rfl (by rw [hc2]; rfl) (Nat.le_of_ble_eq_true rfl) (fun r8 W8 hp8 hl8 => ?_)
    have h1c := sub_pt2 (ro := ro2) (W1 := W8) h1b hdi2
    have h2c := sub_pt h2b hl8
    revert h1c h2c
    generalize px_pt (px_f ro2) ro2 W8 W2 = W3
    intro h1c h2c
    rcases hp8 with ⟨g8, rfl, rfl⟩ | ⟨g8, rfl, rfl⟩
    · skip
      exact absurd g9 (by omega)
    · skip
      show XG _ _ _ _ 230 [some (.ref 1000), some (.ref 0), some (.ref 82), some (.int (nI (6 * k)))] [(.int (nI (n9 + 20))), (.int (nI (n9 + 20)))] _
      refine XG.br eL_law_230 (P := (nI (n9 + 20)) = (nI (n9 + 20))) (r := []) rfl (tgt := 1021) (by decide) (fun _ => kk _ ⟨ro1, ro2, S, lv, _, _, _, _, _, _, _, _, _, _, _, _, _, _, _, _, _, _, _, _, _, _, _, _, _, _, _, _, _, _, _, h1c, h2c, hc1, hc2, hdis, (iv.feed g9 evn ern hT (xs (6 * k + 1)) (xs (6 * k + 2)) (xs (6 * k + 3)) (xs (6 * k + 4)) (xs (6 * k + 5))).mono (by omega)⟩) (fun h => absurd (rfl) h)
set_option maxRecDepth 100000 in
set_option maxHeartbeats 4000000 in
theorem lc_then {L : Nat} {xs : Nat → Int32} (hL : L ≤ 3072) (k : Nat) (hk : 6 * k + 6 ≤ L) (W0 : px_W) (hI : LI (24 * k) W0) (kk : ∀ W1, LI (24 * k + 24) W1 → XG mL_law (px_gL L xs) 131 22130 1021 [some (.ref 1000), some (.ref 0), some (.ref 82), some (.int (nI (6 * k)))] [] W1) : XG mL_law (px_gL L xs) 131 22130 567 [some (.ref 1000), some (.ref 0), some (.ref 82), some (.int (nI (6 * k)))] [] W0 := by
  obtain ⟨ro1, ro2, S, lv, v, a, b, bv, tv, ta, tb, uv, ua, ub, rv, ra, rb, rt9, se, pv, pa, gv, ga, ov, oa, qv, qa, hv, ha, nv, na, yv, ya, cf, cs, h1, h2, hc1, hc2, hdis, iv⟩ := hI
  have hdi2 : ∀ j, j ∈ ro1 → j ∉ ro2 := fun j h w => hdis j w h
  have hs := iv.tx.2.1
  have hr := iv.tx.2.2.1
  refine XG.blk tL_law_ok 327 5 (pc' := 572) (pl' := [some (.ref 1000), some (.ref 0), some (.ref 82), some (.int (nI (6 * k)))]) (st' := [(.int (nI (6 * k) + nI 1)), (.ref 1000), (.ref 0)]) (W1 := _) (bs := []) rfl rfl rfl ?_
  refine XG.sldX (j := 6 * k + 1) (px_eadd rfl rfl) (by omega) hL dL_572 ?_
  refine XG.blk tL_law_ok 333 4 (pc' := 577) (pl' := [some (.ref 1000), some (.ref 0), some (.ref 82), some (.int (nI (6 * k)))]) (st' := [(.int (nI (6 * k) + nI 2)), (.ref 1000), (.int (xs (6 * k + 1))), (.ref 0)]) (W1 := _) (bs := []) rfl rfl rfl ?_
  refine XG.sldX (j := 6 * k + 2) (px_eadd rfl rfl) (by omega) hL dL_577 ?_
  refine XG.br eL_law_578 (P := (xs (6 * k + 2)) = 0) (r := [(.int (xs (6 * k + 1))), (.ref 0)]) rfl (tgt := 585) (by decide) (fun h578 => ?_) (fun h578 => ?_)
  · skip
    refine XG.blk tL_law_ok 341 1 (pc' := 586) (pl' := [some (.ref 1000), some (.ref 0), some (.ref 82), some (.int (nI (6 * k)))]) (st' := [(.int (nI 0)), (.int (xs (6 * k + 1))), (.ref 0)]) (W1 := _) (bs := []) rfl rfl rfl ?_
    refine XG.blk tL_law_ok 342 4 (pc' := 590) (pl' := [some (.ref 1000), some (.ref 0), some (.ref 82), some (.int (nI (6 * k)))]) (st' := [(.int (nI (6 * k) + nI 3)), (.ref 1000), (.int (nI 0)), (.int (xs (6 * k + 1))), (.ref 0)]) (W1 := _) (bs := []) rfl rfl rfl ?_
    refine XG.sldX (j := 6 * k + 3) (px_eadd rfl rfl) (by omega) hL dL_590 ?_
    refine XG.blk tL_law_ok 347 4 (pc' := 595) (pl' := [some (.ref 1000), some (.ref 0), some (.ref 82), some (.int (nI (6 * k)))]) (st' := [(.int (nI (6 * k) + nI 4)), (.ref 1000), (.int (xs (6 * k + 3))), (.int (nI 0)), (.int (xs (6 * k + 1))), (.ref 0)]) (W1 := _) (bs := []) rfl rfl rfl ?_
    refine XG.sldX (j := 6 * k + 4) (px_eadd rfl rfl) (by omega) hL dL_595 ?_
    refine XG.callV (ro := ro1) (W1 := (sW bv tv ta tb uv ua ub rv ra rb (px_tr (px_f [31, 32, 33, 34, 35, 36, 16, 17, 18, 19, 20, 21, 22, 23, 24, 25, 26, 27, 28, 29, 30, 1, 2, 3, 4, 5, 6, 7, 8, 9, 10, 11, 12, 13, 14, 15]) rt9) se pv pa gv ga ov oa qv qa hv ha nv na yv ya cf cs)) (rest := []) eL_law_596 kl_L_80 (cs_then 100 bv tv ta tb uv ua ub rv ra rb (px_tr (px_f [31, 32, 33, 34, 35, 36, 16, 17, 18, 19, 20, 21, 22, 23, 24, 25, 26, 27, 28, 29, 30, 1, 2, 3, 4, 5, 6, 7, 8, 9, 10, 11, 12, 13, 14, 15]) rt9) se pv pa gv ga ov oa qv qa hv ha nv na yv ya cf cs S lv v a iv.tx.q iv.nt (24 * k) iv.gr (by omega) (xs (6 * k + 1)) (nI 0) (xs (6 * k + 3)) (xs (6 * k + 4)) (by decide)) fitL rfl h1 rfl (by rw [hc1]; rfl) (Nat.le_of_ble_eq_true rfl) (fun r9 W9 hp9 hl9 => ?_)
    have h1b := sub_pt h1 hl9
    have h2b := sub_pt2 (ro := ro1) (W1 := W9) h2 hdis
    revert h1b h2b
    generalize px_pt (px_f ro1) ro1 W9 W0 = W2
    intro h1b h2b
    obtain ⟨yv9, ya9, se9, ta9, rfl, hch, rfl⟩ := hp9
    show XG _ _ _ _ 599 [some (.ref 1000), some (.ref 0), some (.ref 82), some (.int (nI (6 * k)))] [(.int (if okThen (S.1 23) (S.1 31) (xs (6 * k + 1)) (xs (6 * k + 3)) (xs (6 * k + 4)) then qThen v a lv (S.1 23) (S.1 24) (S.1 31) ((xs (6 * k + 1))).toNatClampNeg (nI 0) (xs (6 * k + 3)) (xs (6 * k + 4)) else -100))] _
    refine XG.blk tL_law_ok 353 5 (pc' := 604) (pl' := [some (.ref 1000), some (.ref 0), some (.ref 82), some (.int (nI (6 * k)))]) (st' := [(.int (nI (6 * k) + nI 1)), (.ref 1000), (.ref 82), (.int (if okThen (S.1 23) (S.1 31) (xs (6 * k + 1)) (xs (6 * k + 3)) (xs (6 * k + 4)) then qThen v a lv (S.1 23) (S.1 24) (S.1 31) ((xs (6 * k + 1))).toNatClampNeg (nI 0) (xs (6 * k + 3)) (xs (6 * k + 4)) else -100))]) (W1 := _) (bs := []) rfl rfl rfl ?_
    refine XG.sldX (j := 6 * k + 1) (px_eadd rfl rfl) (by omega) hL dL_604 ?_
    refine XG.blk tL_law_ok 359 4 (pc' := 609) (pl' := [some (.ref 1000), some (.ref 0), some (.ref 82), some (.int (nI (6 * k)))]) (st' := [(.int (nI (6 * k) + nI 2)), (.ref 1000), (.int (xs (6 * k + 1))), (.ref 82), (.int (if okThen (S.1 23) (S.1 31) (xs (6 * k + 1)) (xs (6 * k + 3)) (xs (6 * k + 4)) then qThen v a lv (S.1 23) (S.1 24) (S.1 31) ((xs (6 * k + 1))).toNatClampNeg (nI 0) (xs (6 * k + 3)) (xs (6 * k + 4)) else -100))]) (W1 := _) (bs := []) rfl rfl rfl ?_
    refine XG.sldX (j := 6 * k + 2) (px_eadd rfl rfl) (by omega) hL dL_609 ?_
    refine XG.br eL_law_610 (P := (xs (6 * k + 2)) = 0) (r := [(.int (xs (6 * k + 1))), (.ref 82), (.int (if okThen (S.1 23) (S.1 31) (xs (6 * k + 1)) (xs (6 * k + 3)) (xs (6 * k + 4)) then qThen v a lv (S.1 23) (S.1 24) (S.1 31) ((xs (6 * k + 1))).toNatClampNeg (nI 0) (xs (6 * k + 3)) (xs (6 * k + 4)) else -100))]) rfl (tgt := 617) (by decide) (fun h610 => ?_) (fun h610 => ?_)
    · skip
      refine XG.blk tL_law_ok 367 1 (pc' := 618) (pl' := [some (.ref 1000), some (.ref 0), some (.ref 82), some (.int (nI (6 * k)))]) (st' := [(.int (nI 0)), (.int (xs (6 * k + 1))), (.ref 82), (.int (if okThen (S.1 23) (S.1 31) (xs (6 * k + 1)) (xs (6 * k + 3)) (xs (6 * k + 4)) then qThen v a lv (S.1 23) (S.1 24) (S.1 31) ((xs (6 * k + 1))).toNatClampNeg (nI 0) (xs (6 * k + 3)) (xs (6 * k + 4)) else -100))]) (W1 := _) (bs := []) rfl rfl rfl ?_
      refine XG.blk tL_law_ok 368 4 (pc' := 622) (pl' := [some (.ref 1000), some (.ref 0), some (.ref 82), some (.int (nI (6 * k)))]) (st' := [(.int (nI (6 * k) + nI 3)), (.ref 1000), (.int (nI 0)), (.int (xs (6 * k + 1))), (.ref 82), (.int (if okThen (S.1 23) (S.1 31) (xs (6 * k + 1)) (xs (6 * k + 3)) (xs (6 * k + 4)) then qThen v a lv (S.1 23) (S.1 24) (S.1 31) ((xs (6 * k + 1))).toNatClampNeg (nI 0) (xs (6 * k + 3)) (xs (6 * k + 4)) else -100))]) (W1 := _) (bs := []) rfl rfl rfl ?_
      refine XG.sldX (j := 6 * k + 3) (px_eadd rfl rfl) (by omega) hL dL_622 ?_
      refine XG.blk tL_law_ok 373 4 (pc' := 627) (pl' := [some (.ref 1000), some (.ref 0), some (.ref 82), some (.int (nI (6 * k)))]) (st' := [(.int (nI (6 * k) + nI 4)), (.ref 1000), (.int (xs (6 * k + 3))), (.int (nI 0)), (.int (xs (6 * k + 1))), (.ref 82), (.int (if okThen (S.1 23) (S.1 31) (xs (6 * k + 1)) (xs (6 * k + 3)) (xs (6 * k + 4)) then qThen v a lv (S.1 23) (S.1 24) (S.1 31) ((xs (6 * k + 1))).toNatClampNeg (nI 0) (xs (6 * k + 3)) (xs (6 * k + 4)) else -100))]) (W1 := _) (bs := []) rfl rfl rfl ?_
      refine XG.sldX (j := 6 * k + 4) (px_eadd rfl rfl) (by omega) hL dL_627 ?_
      refine XG.callV (ro := ro2) (W1 := (mW v a b)) (rest := [(.int (if okThen (S.1 23) (S.1 31) (xs (6 * k + 1)) (xs (6 * k + 3)) (xs (6 * k + 4)) then qThen v a lv (S.1 23) (S.1 24) (S.1 31) ((xs (6 * k + 1))).toNatClampNeg (nI 0) (xs (6 * k + 3)) (xs (6 * k + 4)) else -100))]) eL_law_628 kl_L_84 (con_then 100 v a b lv (S.1 23) (S.1 24) (S.1 31) iv.mi iv.wf (xs (6 * k + 1)) (nI 0) (xs (6 * k + 3)) (xs (6 * k + 4)) (Or.inl rfl) (by decide)) fitL rfl h2b rfl (by rw [hc2]; rfl) (Nat.le_of_ble_eq_true rfl) (fun r8 W8 hp8 hl8 => ?_)
      have h1c := sub_pt2 (ro := ro2) (W1 := W8) h1b hdi2
      have h2c := sub_pt h2b hl8
      revert h1c h2c
      generalize px_pt (px_f ro2) ro2 W8 W2 = W3
      intro h1c h2c
      obtain ⟨v9, a9, rfl, hQ, rfl⟩ := hp8
      show XG _ _ _ _ 631 [some (.ref 1000), some (.ref 0), some (.ref 82), some (.int (nI (6 * k)))] [(.int (if okThen (S.1 23) (S.1 31) (xs (6 * k + 1)) (xs (6 * k + 3)) (xs (6 * k + 4)) then qThen v a lv (S.1 23) (S.1 24) (S.1 31) ((xs (6 * k + 1))).toNatClampNeg (nI 0) (xs (6 * k + 3)) (xs (6 * k + 4)) else -100)), (.int (if okThen (S.1 23) (S.1 31) (xs (6 * k + 1)) (xs (6 * k + 3)) (xs (6 * k + 4)) then qThen v a lv (S.1 23) (S.1 24) (S.1 31) ((xs (6 * k + 1))).toNatClampNeg (nI 0) (xs (6 * k + 3)) (xs (6 * k + 4)) else -100))] _
      refine XG.br eL_law_631 (P := (if okThen (S.1 23) (S.1 31) (xs (6 * k + 1)) (xs (6 * k + 3)) (xs (6 * k + 4)) then qThen v a lv (S.1 23) (S.1 24) (S.1 31) ((xs (6 * k + 1))).toNatClampNeg (nI 0) (xs (6 * k + 3)) (xs (6 * k + 4)) else -100) = (if okThen (S.1 23) (S.1 31) (xs (6 * k + 1)) (xs (6 * k + 3)) (xs (6 * k + 4)) then qThen v a lv (S.1 23) (S.1 24) (S.1 31) ((xs (6 * k + 1))).toNatClampNeg (nI 0) (xs (6 * k + 3)) (xs (6 * k + 4)) else -100)) (r := []) rfl (tgt := 1021) (by decide) (fun _ => kk _ ⟨ro1, ro2, S, lv, _, _, _, _, _, _, _, _, _, _, _, _, _, _, _, _, _, _, _, _, _, _, _, _, _, _, _, _, _, _, _, h1c, h2c, hc1, hc2, hdis, ((iv.c22 hch).qs hQ).mono (by omega)⟩) (fun h => absurd (rfl) h)
    · exact absurd h578 h610
  · skip
    refine XG.blk tL_law_ok 339 1 (pc' := 582) (pl' := [some (.ref 1000), some (.ref 0), some (.ref 82), some (.int (nI (6 * k)))]) (st' := [(.int (nI 1)), (.int (xs (6 * k + 1))), (.ref 0)]) (W1 := _) (bs := []) rfl rfl rfl ?_
    refine XG.goto eL_law_582 (tgt := 586) (by decide) ?_
    refine XG.blk tL_law_ok 342 4 (pc' := 590) (pl' := [some (.ref 1000), some (.ref 0), some (.ref 82), some (.int (nI (6 * k)))]) (st' := [(.int (nI (6 * k) + nI 3)), (.ref 1000), (.int (nI 1)), (.int (xs (6 * k + 1))), (.ref 0)]) (W1 := _) (bs := []) rfl rfl rfl ?_
    refine XG.sldX (j := 6 * k + 3) (px_eadd rfl rfl) (by omega) hL dL_590 ?_
    refine XG.blk tL_law_ok 347 4 (pc' := 595) (pl' := [some (.ref 1000), some (.ref 0), some (.ref 82), some (.int (nI (6 * k)))]) (st' := [(.int (nI (6 * k) + nI 4)), (.ref 1000), (.int (xs (6 * k + 3))), (.int (nI 1)), (.int (xs (6 * k + 1))), (.ref 0)]) (W1 := _) (bs := []) rfl rfl rfl ?_
    refine XG.sldX (j := 6 * k + 4) (px_eadd rfl rfl) (by omega) hL dL_595 ?_
    refine XG.callV (ro := ro1) (W1 := (sW bv tv ta tb uv ua ub rv ra rb (px_tr (px_f [31, 32, 33, 34, 35, 36, 16, 17, 18, 19, 20, 21, 22, 23, 24, 25, 26, 27, 28, 29, 30, 1, 2, 3, 4, 5, 6, 7, 8, 9, 10, 11, 12, 13, 14, 15]) rt9) se pv pa gv ga ov oa qv qa hv ha nv na yv ya cf cs)) (rest := []) eL_law_596 kl_L_80 (cs_then 100 bv tv ta tb uv ua ub rv ra rb (px_tr (px_f [31, 32, 33, 34, 35, 36, 16, 17, 18, 19, 20, 21, 22, 23, 24, 25, 26, 27, 28, 29, 30, 1, 2, 3, 4, 5, 6, 7, 8, 9, 10, 11, 12, 13, 14, 15]) rt9) se pv pa gv ga ov oa qv qa hv ha nv na yv ya cf cs S lv v a iv.tx.q iv.nt (24 * k) iv.gr (by omega) (xs (6 * k + 1)) (nI 1) (xs (6 * k + 3)) (xs (6 * k + 4)) (by decide)) fitL rfl h1 rfl (by rw [hc1]; rfl) (Nat.le_of_ble_eq_true rfl) (fun r9 W9 hp9 hl9 => ?_)
    have h1b := sub_pt h1 hl9
    have h2b := sub_pt2 (ro := ro1) (W1 := W9) h2 hdis
    revert h1b h2b
    generalize px_pt (px_f ro1) ro1 W9 W0 = W2
    intro h1b h2b
    obtain ⟨yv9, ya9, se9, ta9, rfl, hch, rfl⟩ := hp9
    show XG _ _ _ _ 599 [some (.ref 1000), some (.ref 0), some (.ref 82), some (.int (nI (6 * k)))] [(.int (if okThen (S.1 23) (S.1 31) (xs (6 * k + 1)) (xs (6 * k + 3)) (xs (6 * k + 4)) then qThen v a lv (S.1 23) (S.1 24) (S.1 31) ((xs (6 * k + 1))).toNatClampNeg (nI 1) (xs (6 * k + 3)) (xs (6 * k + 4)) else -100))] _
    refine XG.blk tL_law_ok 353 5 (pc' := 604) (pl' := [some (.ref 1000), some (.ref 0), some (.ref 82), some (.int (nI (6 * k)))]) (st' := [(.int (nI (6 * k) + nI 1)), (.ref 1000), (.ref 82), (.int (if okThen (S.1 23) (S.1 31) (xs (6 * k + 1)) (xs (6 * k + 3)) (xs (6 * k + 4)) then qThen v a lv (S.1 23) (S.1 24) (S.1 31) ((xs (6 * k + 1))).toNatClampNeg (nI 1) (xs (6 * k + 3)) (xs (6 * k + 4)) else -100))]) (W1 := _) (bs := []) rfl rfl rfl ?_
    refine XG.sldX (j := 6 * k + 1) (px_eadd rfl rfl) (by omega) hL dL_604 ?_
    refine XG.blk tL_law_ok 359 4 (pc' := 609) (pl' := [some (.ref 1000), some (.ref 0), some (.ref 82), some (.int (nI (6 * k)))]) (st' := [(.int (nI (6 * k) + nI 2)), (.ref 1000), (.int (xs (6 * k + 1))), (.ref 82), (.int (if okThen (S.1 23) (S.1 31) (xs (6 * k + 1)) (xs (6 * k + 3)) (xs (6 * k + 4)) then qThen v a lv (S.1 23) (S.1 24) (S.1 31) ((xs (6 * k + 1))).toNatClampNeg (nI 1) (xs (6 * k + 3)) (xs (6 * k + 4)) else -100))]) (W1 := _) (bs := []) rfl rfl rfl ?_
    refine XG.sldX (j := 6 * k + 2) (px_eadd rfl rfl) (by omega) hL dL_609 ?_
    refine XG.br eL_law_610 (P := (xs (6 * k + 2)) = 0) (r := [(.int (xs (6 * k + 1))), (.ref 82), (.int (if okThen (S.1 23) (S.1 31) (xs (6 * k + 1)) (xs (6 * k + 3)) (xs (6 * k + 4)) then qThen v a lv (S.1 23) (S.1 24) (S.1 31) ((xs (6 * k + 1))).toNatClampNeg (nI 1) (xs (6 * k + 3)) (xs (6 * k + 4)) else -100))]) rfl (tgt := 617) (by decide) (fun h610 => ?_) (fun h610 => ?_)
    · exact absurd h610 h578
    · skip
      refine XG.blk tL_law_ok 365 1 (pc' := 614) (pl' := [some (.ref 1000), some (.ref 0), some (.ref 82), some (.int (nI (6 * k)))]) (st' := [(.int (nI 1)), (.int (xs (6 * k + 1))), (.ref 82), (.int (if okThen (S.1 23) (S.1 31) (xs (6 * k + 1)) (xs (6 * k + 3)) (xs (6 * k + 4)) then qThen v a lv (S.1 23) (S.1 24) (S.1 31) ((xs (6 * k + 1))).toNatClampNeg (nI 1) (xs (6 * k + 3)) (xs (6 * k + 4)) else -100))]) (W1 := _) (bs := []) rfl rfl rfl ?_
      refine XG.goto eL_law_614 (tgt := 618) (by decide) ?_
      refine XG.blk tL_law_ok 368 4 (pc' := 622) (pl' := [some (.ref 1000), some (.ref 0), some (.ref 82), some (.int (nI (6 * k)))]) (st' := [(.int (nI (6 * k) + nI 3)), (.ref 1000), (.int (nI 1)), (.int (xs (6 * k + 1))), (.ref 82), (.int (if okThen (S.1 23) (S.1 31) (xs (6 * k + 1)) (xs (6 * k + 3)) (xs (6 * k + 4)) then qThen v a lv (S.1 23) (S.1 24) (S.1 31) ((xs (6 * k + 1))).toNatClampNeg (nI 1) (xs (6 * k + 3)) (xs (6 * k + 4)) else -100))]) (W1 := _) (bs := []) rfl rfl rfl ?_
      refine XG.sldX (j := 6 * k + 3) (px_eadd rfl rfl) (by omega) hL dL_622 ?_
      refine XG.blk tL_law_ok 373 4 (pc' := 627) (pl' := [some (.ref 1000), some (.ref 0), some (.ref 82), some (.int (nI (6 * k)))]) (st' := [(.int (nI (6 * k) + nI 4)), (.ref 1000), (.int (xs (6 * k + 3))), (.int (nI 1)), (.int (xs (6 * k + 1))), (.ref 82), (.int (if okThen (S.1 23) (S.1 31) (xs (6 * k + 1)) (xs (6 * k + 3)) (xs (6 * k + 4)) then qThen v a lv (S.1 23) (S.1 24) (S.1 31) ((xs (6 * k + 1))).toNatClampNeg (nI 1) (xs (6 * k + 3)) (xs (6 * k + 4)) else -100))]) (W1 := _) (bs := []) rfl rfl rfl ?_
      refine XG.sldX (j := 6 * k + 4) (px_eadd rfl rfl) (by omega) hL dL_627 ?_
      refine XG.callV (ro := ro2) (W1 := (mW v a b)) (rest := [(.int (if okThen (S.1 23) (S.1 31) (xs (6 * k + 1)) (xs (6 * k + 3)) (xs (6 * k + 4)) then qThen v a lv (S.1 23) (S.1 24) (S.1 31) ((xs (6 * k + 1))).toNatClampNeg (nI 1) (xs (6 * k + 3)) (xs (6 * k + 4)) else -100))]) eL_law_628 kl_L_84 (con_then 100 v a b lv (S.1 23) (S.1 24) (S.1 31) iv.mi iv.wf (xs (6 * k + 1)) (nI 1) (xs (6 * k + 3)) (xs (6 * k + 4)) (Or.inr rfl) (by decide)) fitL rfl h2b rfl (by rw [hc2]; rfl) (Nat.le_of_ble_eq_true rfl) (fun r8 W8 hp8 hl8 => ?_)
      have h1c := sub_pt2 (ro := ro2) (W1 := W8) h1b hdi2
      have h2c := sub_pt h2b hl8
      revert h1c h2c
      generalize px_pt (px_f ro2) ro2 W8 W2 = W3
      intro h1c h2c
      obtain ⟨v9, a9, rfl, hQ, rfl⟩ := hp8
      show XG _ _ _ _ 631 [some (.ref 1000), some (.ref 0), some (.ref 82), some (.int (nI (6 * k)))] [(.int (if okThen (S.1 23) (S.1 31) (xs (6 * k + 1)) (xs (6 * k + 3)) (xs (6 * k + 4)) then qThen v a lv (S.1 23) (S.1 24) (S.1 31) ((xs (6 * k + 1))).toNatClampNeg (nI 1) (xs (6 * k + 3)) (xs (6 * k + 4)) else -100)), (.int (if okThen (S.1 23) (S.1 31) (xs (6 * k + 1)) (xs (6 * k + 3)) (xs (6 * k + 4)) then qThen v a lv (S.1 23) (S.1 24) (S.1 31) ((xs (6 * k + 1))).toNatClampNeg (nI 1) (xs (6 * k + 3)) (xs (6 * k + 4)) else -100))] _
      refine XG.br eL_law_631 (P := (if okThen (S.1 23) (S.1 31) (xs (6 * k + 1)) (xs (6 * k + 3)) (xs (6 * k + 4)) then qThen v a lv (S.1 23) (S.1 24) (S.1 31) ((xs (6 * k + 1))).toNatClampNeg (nI 1) (xs (6 * k + 3)) (xs (6 * k + 4)) else -100) = (if okThen (S.1 23) (S.1 31) (xs (6 * k + 1)) (xs (6 * k + 3)) (xs (6 * k + 4)) then qThen v a lv (S.1 23) (S.1 24) (S.1 31) ((xs (6 * k + 1))).toNatClampNeg (nI 1) (xs (6 * k + 3)) (xs (6 * k + 4)) else -100)) (r := []) rfl (tgt := 1021) (by decide) (fun _ => kk _ ⟨ro1, ro2, S, lv, _, _, _, _, _, _, _, _, _, _, _, _, _, _, _, _, _, _, _, _, _, _, _, _, _, _, _, _, _, _, _, h1c, h2c, hc1, hc2, hdis, ((iv.c22 hch).qs hQ).mono (by omega)⟩) (fun h => absurd (rfl) h)
