/-! THE LAW: tell, back, feed, then -/
theorem XG.sldX {M : px_M} {L nc ns pc : Nat} {xs : Nat → Int32} {pl : px_L} {st : List Value} {W0 : px_W} {x : Int32} {j : Nat} (hx : x = nI j) (hj : j < L) (hL : L ≤ 3072) (hd : decode M.2.1 pc = .ok (.iaload, 1)) (k : XG M (px_gL L xs) nc ns (pc + 1) pl (.int (xs j) :: st) W0) : XG M (px_gL L xs) nc ns pc pl (.int x :: .ref 1000 :: st) W0 := by
  subst hx
  exact XG.sldL hj hL hd k
theorem or_of {A B C : Prop} (h : (A → B) ∧ (¬ A → C)) : (A ∧ B) ∨ (¬ A ∧ C) := by
  by_cases w : A
  · exact Or.inl ⟨w, h.1 w⟩
  · exact Or.inr ⟨w, h.2 w⟩
set_option maxRecDepth 100000 in
set_option maxHeartbeats 1000000 in
theorem lc_tell {L : Nat} {xs : Nat → Int32} (hL : L ≤ 3072) (k : Nat) (hk : 6 * k + 6 ≤ L) (W0 : px_W) (hI : LI (24 * k) W0) (kk : ∀ W1, LI (24 * k + 24) W1 → XG mL_law (px_gL L xs) 131 22130 1021 [some (.ref 1000), some (.ref 0), some (.ref 82), some (.int (nI (6 * k)))] [] W1) : XG mL_law (px_gL L xs) 131 22130 850 [some (.ref 1000), some (.ref 0), some (.ref 82), some (.int (nI (6 * k)))] [] W0 := by
  obtain ⟨ro1, ro2, S, lv, v, a, b, bv, tv, ta, tb, uv, ua, ub, rv, ra, rb, rt9, se, pv, pa, gv, ga, ov, oa, qv, qa, hv, ha, nv, na, yv, ya, cf, cs, h1, h2, hc1, hc2, hdis, iv⟩ := hI
  have hdi2 : ∀ j, j ∈ ro1 → j ∉ ro2 := fun j h w => hdis j w h
  have hs := iv.tx.2.1
  have hr := iv.tx.2.2.1
  obtain ⟨tn, htn, e69, hq0, hto⟩ := iv.to
  have h5 := hr.1.2
  refine XG.blk tL_law_ok 548 5 (pc' := 855) (pl' := [some (.ref 1000), some (.ref 0), some (.ref 82), some (.int (nI (6 * k)))]) (st' := [(.int (nI (6 * k) + nI 1)), (.ref 1000), (.ref 0)]) (W1 := _) (bs := []) rfl rfl rfl ?_
  refine XG.sldX (j := 6 * k + 1) (px_eadd rfl rfl) (by omega) hL dL_855 ?_
  refine XG.blk tL_law_ok 554 4 (pc' := 860) (pl' := [some (.ref 1000), some (.ref 0), some (.ref 82), some (.int (nI (6 * k)))]) (st' := [(.int (nI (6 * k) + nI 2)), (.ref 1000), (.int (xs (6 * k + 1))), (.ref 0)]) (W1 := _) (bs := []) rfl rfl rfl ?_
  refine XG.sldX (j := 6 * k + 2) (px_eadd rfl rfl) (by omega) hL dL_860 ?_
  refine XG.callV (ro := ro1) (W1 := (sW bv tv ta tb uv ua ub rv ra rb (px_tr (px_f [31, 32, 33, 34, 35, 36, 16, 17, 18, 19, 20, 21, 22, 23, 24, 25, 26, 27, 28, 29, 30, 1, 2, 3, 4, 5, 6, 7, 8, 9, 10, 11, 12, 13, 14, 15]) rt9) se pv pa gv ga ov oa qv qa hv ha nv na yv ya cf cs)) (rest := []) eL_law_861 kl_L_118 (cs_tell 100 bv tv ta tb uv ua ub rv ra rb (px_tr (px_f [31, 32, 33, 34, 35, 36, 16, 17, 18, 19, 20, 21, 22, 23, 24, 25, 26, 27, 28, 29, 30, 1, 2, 3, 4, 5, 6, 7, 8, 9, 10, 11, 12, 13, 14, 15]) rt9) se pv pa gv ga ov oa qv qa hv ha nv na yv ya cf cs S lv a iv.tx.q tn hq0 htn (xs (6 * k + 1)) (xs (6 * k + 2)) (by decide)) fitL rfl h1 rfl (by rw [hc1]; rfl) (Nat.le_of_ble_eq_true rfl) (fun r9 W9 hp9 hl9 => ?_)
  have h1b := sub_pt h1 hl9
  have h2b := sub_pt2 (ro := ro1) (W1 := W9) h2 hdis
  revert h1b h2b
  generalize px_pt (px_f ro1) ro1 W9 W0 = W2
  intro h1b h2b
  rcases hp9 with ⟨hC, rfl, rfl⟩ | ⟨hC, rfl, rfl⟩
  · skip
    show XG _ _ _ _ 864 [some (.ref 1000), some (.ref 0), some (.ref 82), some (.int (nI (6 * k)))] [(.int (-1))] _
    refine XG.blk tL_law_ok 560 5 (pc' := 869) (pl' := [some (.ref 1000), some (.ref 0), some (.ref 82), some (.int (nI (6 * k)))]) (st' := [(.int (nI (6 * k) + nI 1)), (.ref 1000), (.ref 82), (.int (-1))]) (W1 := _) (bs := []) rfl rfl rfl ?_
    refine XG.sldX (j := 6 * k + 1) (px_eadd rfl rfl) (by omega) hL dL_869 ?_
    refine XG.blk tL_law_ok 566 4 (pc' := 874) (pl' := [some (.ref 1000), some (.ref 0), some (.ref 82), some (.int (nI (6 * k)))]) (st' := [(.int (nI (6 * k) + nI 2)), (.ref 1000), (.int (xs (6 * k + 1))), (.ref 82), (.int (-1))]) (W1 := _) (bs := []) rfl rfl rfl ?_
    refine XG.sldX (j := 6 * k + 2) (px_eadd rfl rfl) (by omega) hL dL_874 ?_
    refine XG.callV (ro := ro2) (W1 := (mW v a b)) (rest := [(.int (-1))]) eL_law_875 kl_L_121 (con_tell 100 v a b lv (S.1 23) (S.1 24) (S.1 31) iv.mi tn e69 htn (xs (6 * k + 1)) (xs (6 * k + 2)) (by decide)) fitL rfl h2b rfl (by rw [hc2]; rfl) (Nat.le_of_ble_eq_true rfl) (fun r8 W8 hp8 hl8 => ?_)
    have h1c := sub_pt2 (ro := ro2) (W1 := W8) h1b hdi2
    have h2c := sub_pt h2b hl8
    revert h1c h2c
    generalize px_pt (px_f ro2) ro2 W8 W2 = W3
    intro h1c h2c
    rcases hp8 with ⟨hD, rfl, rfl⟩ | ⟨hD, rfl, rfl⟩
    · skip
      show XG _ _ _ _ 878 [some (.ref 1000), some (.ref 0), some (.ref 82), some (.int (nI (6 * k)))] [(.int (-1)), (.int (-1))] _
      refine XG.br eL_law_878 (P := (-1) = (-1)) (r := []) rfl (tgt := 1021) (by decide) (fun _ => kk _ ⟨ro1, ro2, S, lv, _, _, _, _, _, _, _, _, _, _, _, _, _, _, _, _, _, _, _, _, _, _, _, _, _, _, _, _, _, _, _, h1c, h2c, hc1, hc2, hdis, iv.mono (by omega)⟩) (fun h => absurd (rfl) h)
    · skip
      exact absurd hD hC
  · skip
    show XG _ _ _ _ 864 [some (.ref 1000), some (.ref 0), some (.ref 82), some (.int (nI (6 * k)))] [(.int (nI tn))] _
    refine XG.blk tL_law_ok 560 5 (pc' := 869) (pl' := [some (.ref 1000), some (.ref 0), some (.ref 82), some (.int (nI (6 * k)))]) (st' := [(.int (nI (6 * k) + nI 1)), (.ref 1000), (.ref 82), (.int (nI tn))]) (W1 := _) (bs := []) rfl rfl rfl ?_
    refine XG.sldX (j := 6 * k + 1) (px_eadd rfl rfl) (by omega) hL dL_869 ?_
    refine XG.blk tL_law_ok 566 4 (pc' := 874) (pl' := [some (.ref 1000), some (.ref 0), some (.ref 82), some (.int (nI (6 * k)))]) (st' := [(.int (nI (6 * k) + nI 2)), (.ref 1000), (.int (xs (6 * k + 1))), (.ref 82), (.int (nI tn))]) (W1 := _) (bs := []) rfl rfl rfl ?_
    refine XG.sldX (j := 6 * k + 2) (px_eadd rfl rfl) (by omega) hL dL_874 ?_
    refine XG.callV (ro := ro2) (W1 := (mW v a b)) (rest := [(.int (nI tn))]) eL_law_875 kl_L_121 (con_tell 100 v a b lv (S.1 23) (S.1 24) (S.1 31) iv.mi tn e69 htn (xs (6 * k + 1)) (xs (6 * k + 2)) (by decide)) fitL rfl h2b rfl (by rw [hc2]; rfl) (Nat.le_of_ble_eq_true rfl) (fun r8 W8 hp8 hl8 => ?_)
    have h1c := sub_pt2 (ro := ro2) (W1 := W8) h1b hdi2
    have h2c := sub_pt h2b hl8
    revert h1c h2c
    generalize px_pt (px_f ro2) ro2 W8 W2 = W3
    intro h1c h2c
    rcases hp8 with ⟨hD, rfl, rfl⟩ | ⟨hD, rfl, rfl⟩
    · skip
      exact absurd hC hD
    · skip
      show XG _ _ _ _ 878 [some (.ref 1000), some (.ref 0), some (.ref 82), some (.int (nI (6 * k)))] [(.int (nI tn)), (.int (nI tn))] _
      obtain ⟨q9, hq9, eq9⟩ := px_vb_ex hC.2.1 (by omega)
      obtain ⟨w9, -, hw9, ew9⟩ := in_nat (by omega) (by omega) hC.2.2
      rw [eq9, ew9] at h1c h2c
      refine XG.br eL_law_878 (P := (nI tn) = (nI tn)) (r := []) rfl (tgt := 1021) (by decide) (fun _ => kk _ ⟨ro1, ro2, S, lv, _, _, _, _, _, _, _, _, _, _, _, _, _, _, _, _, _, _, _, _, _, _, _, _, _, _, _, _, _, _, _, h1c, h2c, hc1, hc2, hdis, (iv.tell (by have := hC.1; omega) hq9 hw9 hto).mono (by omega)⟩) (fun h => absurd (rfl) h)
set_option maxRecDepth 100000 in
set_option maxHeartbeats 1000000 in
theorem lc_back {L : Nat} {xs : Nat → Int32} (hL : L ≤ 3072) (k : Nat) (hk : 6 * k + 6 ≤ L) (W0 : px_W) (hI : LI (24 * k) W0) (kk : ∀ W1, LI (24 * k + 24) W1 → XG mL_law (px_gL L xs) 131 22130 1021 [some (.ref 1000), some (.ref 0), some (.ref 82), some (.int (nI (6 * k)))] [] W1) : XG mL_law (px_gL L xs) 131 22130 235 [some (.ref 1000), some (.ref 0), some (.ref 82), some (.int (nI (6 * k)))] [] W0 := by
  obtain ⟨ro1, ro2, S, lv, v, a, b, bv, tv, ta, tb, uv, ua, ub, rv, ra, rb, rt9, se, pv, pa, gv, ga, ov, oa, qv, qa, hv, ha, nv, na, yv, ya, cf, cs, h1, h2, hc1, hc2, hdis, iv⟩ := hI
  have hdi2 : ∀ j, j ∈ ro1 → j ∉ ro2 := fun j h w => hdis j w h
  have hs := iv.tx.2.1
  have hr := iv.tx.2.2.1
  obtain ⟨n9, hn9, evn, ern, hT⟩ := iv.tp
  refine XG.blk tL_law_ok 79 5 (pc' := 240) (pl' := [some (.ref 1000), some (.ref 0), some (.ref 82), some (.int (nI (6 * k)))]) (st' := [(.int (nI (6 * k) + nI 1)), (.ref 1000), (.ref 0)]) (W1 := _) (bs := []) rfl rfl rfl ?_
  refine XG.sldX (j := 6 * k + 1) (px_eadd rfl rfl) (by omega) hL dL_240 ?_
  refine XG.callV (ro := ro1) (W1 := (sW bv tv ta tb uv ua ub rv ra rb (px_tr (px_f [31, 32, 33, 34, 35, 36, 16, 17, 18, 19, 20, 21, 22, 23, 24, 25, 26, 27, 28, 29, 30, 1, 2, 3, 4, 5, 6, 7, 8, 9, 10, 11, 12, 13, 14, 15]) rt9) se pv pa gv ga ov oa qv qa hv ha nv na yv ya cf cs)) (rest := []) eL_law_241 kl_L_18 (cs_back 100 bv tv ta tb uv ua ub rv ra rb (px_tr (px_f [31, 32, 33, 34, 35, 36, 16, 17, 18, 19, 20, 21, 22, 23, 24, 25, 26, 27, 28, 29, 30, 1, 2, 3, 4, 5, 6, 7, 8, 9, 10, 11, 12, 13, 14, 15]) rt9) se pv pa gv ga ov oa qv qa hv ha nv na yv ya cf cs (xs (6 * k + 1))) fitL rfl h1 rfl (by rw [hc1]; rfl) (Nat.le_of_ble_eq_true rfl) (fun r9 W9 hp9 hl9 => ?_)
  have h1b := sub_pt h1 hl9
  have h2b := sub_pt2 (ro := ro1) (W1 := W9) h2 hdis
  revert h1b h2b
  generalize px_pt (px_f ro1) ro1 W9 W0 = W2
  intro h1b h2b
  rcases or_of hp9 with ⟨hC, rfl, rfl⟩ | ⟨hC, rfl, rfl⟩
  · skip
    show XG _ _ _ _ 244 [some (.ref 1000), some (.ref 0), some (.ref 82), some (.int (nI (6 * k)))] [(.int (rv 0 - (xs (6 * k + 1))))] _
    refine XG.blk tL_law_ok 86 5 (pc' := 249) (pl' := [some (.ref 1000), some (.ref 0), some (.ref 82), some (.int (nI (6 * k)))]) (st' := [(.int (nI (6 * k) + nI 1)), (.ref 1000), (.ref 82), (.int (rv 0 - (xs (6 * k + 1))))]) (W1 := _) (bs := []) rfl rfl rfl ?_
    refine XG.sldX (j := 6 * k + 1) (px_eadd rfl rfl) (by omega) hL dL_249 ?_
    refine XG.callV (ro := ro2) (W1 := (mW v a b)) (rest := [(.int (rv 0 - (xs (6 * k + 1))))]) eL_law_250 kl_L_22 (con_back 100 v a b (xs (6 * k + 1))) fitL rfl h2b rfl (by rw [hc2]; rfl) (Nat.le_of_ble_eq_true rfl) (fun r8 W8 hp8 hl8 => ?_)
    have h1c := sub_pt2 (ro := ro2) (W1 := W8) h1b hdi2
    have h2c := sub_pt h2b hl8
    revert h1c h2c
    generalize px_pt (px_f ro2) ro2 W8 W2 = W3
    intro h1c h2c
    rcases hp8 with ⟨hD, rfl, rfl⟩ | ⟨hD, rfl, rfl⟩
    · skip
      exact absurd ⟨hC.1, by rw [evn, ← ern]; exact hC.2⟩ hD
    · skip
      show XG _ _ _ _ 253 [some (.ref 1000), some (.ref 0), some (.ref 82), some (.int (nI (6 * k)))] [(.int (v 2 - (xs (6 * k + 1)))), (.int (rv 0 - (xs (6 * k + 1))))] _
      obtain ⟨k9, -, hk9, ek9⟩ := in_nat (lo := 0) (hi := n9) (by omega) (by omega) (by rw [← ern]; exact hC)
      have ea : v 2 - (xs (6 * k + 1)) = nI (n9 - k9) := by rw [evn, ek9]; exact px_esub rfl rfl hk9
      have eb : rv 0 - (xs (6 * k + 1)) = nI (n9 - k9) := by rw [ern, ek9]; exact px_esub rfl rfl hk9
      rw [eb] at h1c
      rw [ea] at h2c
      refine XG.br eL_law_253 (P := (rv 0 - (xs (6 * k + 1))) = (v 2 - (xs (6 * k + 1)))) (r := []) rfl (tgt := 1021) (by decide) (fun _ => kk _ ⟨ro1, ro2, S, lv, _, _, _, _, _, _, _, _, _, _, _, _, _, _, _, _, _, _, _, _, _, _, _, _, _, _, _, _, _, _, _, h1c, h2c, hc1, hc2, hdis, (iv.back hn9 hk9 hT).mono (by omega)⟩) (fun h => absurd (by rw [ern, evn]) h)
  · skip
    show XG _ _ _ _ 244 [some (.ref 1000), some (.ref 0), some (.ref 82), some (.int (nI (6 * k)))] [(.int (-1))] _
    refine XG.blk tL_law_ok 86 5 (pc' := 249) (pl' := [some (.ref 1000), some (.ref 0), some (.ref 82), some (.int (nI (6 * k)))]) (st' := [(.int (nI (6 * k) + nI 1)), (.ref 1000), (.ref 82), (.int (-1))]) (W1 := _) (bs := []) rfl rfl rfl ?_
    refine XG.sldX (j := 6 * k + 1) (px_eadd rfl rfl) (by omega) hL dL_249 ?_
    refine XG.callV (ro := ro2) (W1 := (mW v a b)) (rest := [(.int (-1))]) eL_law_250 kl_L_22 (con_back 100 v a b (xs (6 * k + 1))) fitL rfl h2b rfl (by rw [hc2]; rfl) (Nat.le_of_ble_eq_true rfl) (fun r8 W8 hp8 hl8 => ?_)
    have h1c := sub_pt2 (ro := ro2) (W1 := W8) h1b hdi2
    have h2c := sub_pt h2b hl8
    revert h1c h2c
    generalize px_pt (px_f ro2) ro2 W8 W2 = W3
    intro h1c h2c
    rcases hp8 with ⟨hD, rfl, rfl⟩ | ⟨hD, rfl, rfl⟩
    · skip
      show XG _ _ _ _ 253 [some (.ref 1000), some (.ref 0), some (.ref 82), some (.int (nI (6 * k)))] [(.int (-1)), (.int (-1))] _
      refine XG.br eL_law_253 (P := (-1) = (-1)) (r := []) rfl (tgt := 1021) (by decide) (fun _ => kk _ ⟨ro1, ro2, S, lv, _, _, _, _, _, _, _, _, _, _, _, _, _, _, _, _, _, _, _, _, _, _, _, _, _, _, _, _, _, _, _, h1c, h2c, hc1, hc2, hdis, iv.mono (by omega)⟩) (fun h => absurd (rfl) h)
    · skip
      exact absurd ⟨hD.1, by rw [ern, ← evn]; exact hD.2⟩ hC
