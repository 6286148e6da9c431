/-! THE LAW: read -/
set_option maxHeartbeats 4000000 in
theorem swap_sub (bv : Nat → Int32) (tv : Nat → Int32) (ta : Nat → Nat → Int32) (tb : Nat → Nat → Int64) (uv : Nat → Int32) (ua : Nat → Nat → Int32) (ub : Nat → Nat → Int64) (rv : Nat → Int32) (ra : Nat → Nat → Int32) (rb : Nat → Nat → Int64) (se : Nat → Int32) (pv : Nat → Int32) (pa : Nat → Nat → Int32) (gv : Nat → Int32) (ga : Nat → Nat → Int32) (ov : Nat → Int32) (oa : Nat → Nat → Int32) (qv : Nat → Int32) (qa : Nat → Nat → Int32) (hv : Nat → Int32) (ha : Nat → Nat → Int32) (nv : Nat → Int32) (na : Nat → Nat → Int32) (yv : Nat → Int32) (ya : Nat → Nat → Int32) (cf : Nat → Int32) (cs : Nat → Int32) : px_sub [0, 16, 17, 18, 19, 20, 21, 22, 23, 24, 25, 26, 27, 28, 29, 30, 1, 2, 3, 4, 5, 6, 7, 8, 9, 10, 11, 12, 13, 14, 15, 31, 32, 33, 34, 35, 36, 37, 38, 39, 40, 41, 42, 43, 44, 45, 46, 47, 48, 49, 50, 51, 52, 53, 54, 55, 56, 57, 58, 59, 60, 61, 62, 63, 64, 65, 66, 67, 68, 69, 70, 71, 72, 73, 74, 75, 76, 77, 78, 79, 80, 81] (sG 16 1 16 bv tv ta tb uv ua ub rv ra rb (.ref 16) se pv pa gv ga ov oa qv qa hv ha nv na yv ya cf cs) (sG 1 16 1 bv uv ua ub tv ta tb rv ra rb (.ref 1) se pv pa gv ga ov oa qv qa hv ha nv na yv ya cf cs) ∧ px_wf (sG 1 16 1 bv uv ua ub tv ta tb rv ra rb (.ref 1) se pv pa gv ga ov oa qv qa hv ha nv na yv ya cf cs) = true := ⟨⟨rfl, by decide, by decide⟩, wf_lit (n := 82) rfl rfl⟩
theorem swap_lt : ∀ i, i ∈ [0, 16, 17, 18, 19, 20, 21, 22, 23, 24, 25, 26, 27, 28, 29, 30, 1, 2, 3, 4, 5, 6, 7, 8, 9, 10, 11, 12, 13, 14, 15, 31, 32, 33, 34, 35, 36, 37, 38, 39, 40, 41, 42, 43, 44, 45, 46, 47, 48, 49, 50, 51, 52, 53, 54, 55, 56, 57, 58, 59, 60, 61, 62, 63, 64, 65, 66, 67, 68, 69, 70, 71, 72, 73, 74, 75, 76, 77, 78, 79, 80, 81] → i < 82 := by decide
theorem swap_mem {ro rp : List Nat} {W0 W1 : px_W} (h : px_sub ro W0 W1) (hl : W1.length = 82) (hp : ∀ i, i ∈ rp → i < 82) : ∀ j, j ∈ rp.map (px_f ro) → j ∈ ro := by
  intro j hj
  obtain ⟨i, hi, rfl⟩ := List.mem_map.mp hj
  have hlr := px_sub_len h
  have h82 := hp i hi
  have e := List.getElem?_eq_getElem (show i < ro.length by omega)
  rw [px_f_at e (by omega)]
  exact List.getElem_mem _
set_option maxRecDepth 100000 in
set_option maxHeartbeats 1000000 in
theorem lc_read {L : Nat} {xs : Nat → Int32} (hL : L ≤ 3072) (k : Nat) (hk : 6 * k + 6 ≤ L) (W0 : px_W) (hI : LI (24 * k) W0) (kk : ∀ W1, LI (24 * k + 24) W1 → XG mL_law (px_gL L xs) 131 22130 1021 [some (.ref 1000), some (.ref 0), some (.ref 82), some (.int (nI (6 * k)))] [] W1) : XG mL_law (px_gL L xs) 131 22130 258 [some (.ref 1000), some (.ref 0), some (.ref 82), some (.int (nI (6 * k)))] [] W0 := by
  obtain ⟨ro1, ro2, S, lv, v, a, b, bv, tv, ta, tb, uv, ua, ub, rv, ra, rb, rt9, se, pv, pa, gv, ga, ov, oa, qv, qa, hv, ha, nv, na, yv, ya, cf, cs, h1, h2, hc1, hc2, hdis, iv⟩ := hI
  have hdi2 : ∀ j, j ∈ ro1 → j ∉ ro2 := fun j h w => hdis j w h
  have hs := iv.tx.2.1
  have hr := iv.tx.2.2.1
  obtain ⟨n9, hn9, evn, ern, hT⟩ := iv.tp
  obtain ⟨u9, np9, -, hnp9, -, -, e11, -⟩ := iv.un
  have hlv := iv.tx.2.2.2.1
  have h1g : px_sub ro1 W0 (sG 1 16 1 bv tv ta tb uv ua ub rv ra rb (px_tr (px_f [31, 32, 33, 34, 35, 36, 16, 17, 18, 19, 20, 21, 22, 23, 24, 25, 26, 27, 28, 29, 30, 1, 2, 3, 4, 5, 6, 7, 8, 9, 10, 11, 12, 13, 14, 15]) rt9) se pv pa gv ga ov oa qv qa hv ha nv na yv ya cf cs) := by rw [← sW_G]; exact h1
  refine XG.blk tL_law_ok 96 1 (pc' := 259) (pl' := [some (.ref 1000), some (.ref 0), some (.ref 82), some (.int (nI (6 * k)))]) (st' := [(.ref 0)]) (W1 := _) (bs := []) rfl rfl rfl ?_
  refine XG.callV (ro := ro1) (W1 := (sG 1 16 1 bv tv ta tb uv ua ub rv ra rb (px_tr (px_f [31, 32, 33, 34, 35, 36, 16, 17, 18, 19, 20, 21, 22, 23, 24, 25, 26, 27, 28, 29, 30, 1, 2, 3, 4, 5, 6, 7, 8, 9, 10, 11, 12, 13, 14, 15]) rt9) se pv pa gv ga ov oa qv qa hv ha nv na yv ya cf cs)) (rest := []) eL_law_259 kl_L_23 (cs_read 100 bv tv ta tb uv ua ub rv ra rb rt9 se pv pa gv ga ov oa qv qa hv ha nv na yv ya cf cs (bytesOf (a 1)) n9 hn9 ern hT iv.w3 (by decide)) fitL rfl h1g rfl (by rw [hc1]; rfl) (Nat.le_of_ble_eq_true rfl) (fun r9 W9 hp9 hl9 => ?_)
  have h1b := sub_pt h1g hl9
  have h2b := sub_pt2 (ro := ro1) (W1 := W9) h2 hdis
  revert h1b h2b
  generalize px_pt (px_f ro1) ro1 W9 W0 = W2
  intro h1b h2b
  rcases hp9 with ⟨e9, he9, rfl, rv9, ra9, rb9, uv9, ua9, ub9, rfl, r0, r1, hrb⟩ | ⟨S9, hS9, rfl, rv9, ra9, rb9, uv9, ua9, ub9, nv9, na9, rfl, r0, r1, hrb, hCT, hCN⟩
  · skip
    rw [← sW_G] at h1b
    show XG _ _ _ _ 262 [some (.ref 1000), some (.ref 0), some (.ref 82), some (.int (nI (6 * k)))] [(.int (nI e9.1))] _
    refine XG.blk tL_law_ok 98 1 (pc' := 263) (pl' := [some (.ref 1000), some (.ref 0), some (.ref 82), some (.int (nI (6 * k)))]) (st' := [(.ref 82), (.int (nI e9.1))]) (W1 := _) (bs := []) rfl rfl rfl ?_
    refine XG.callV (ro := ro2) (W1 := (mW v a b)) (rest := [(.int (nI e9.1))]) eL_law_263 kl_L_27 (con_read 100 v a b lv (1 - lv) n9 (by omega) iv.v18 evn hn9 iv.k9 (by decide)) fitL rfl h2b rfl (by rw [hc2]; rfl) (Nat.le_of_ble_eq_true rfl) (fun r8 W8 hp8 hl8 => ?_)
    have h1c := sub_pt2 (ro := ro2) (W1 := W8) h1b hdi2
    have h2c := sub_pt h2b hl8
    revert h1c h2c
    generalize px_pt (px_f ro2) ro2 W8 W2 = W3
    intro h1c h2c
    obtain ⟨v9, a9, b9, rfl, z2, hb9, (⟨e8, he8, rfl, z17, hv9, hf9⟩ | ⟨S8, hS8, rfl, z17, z18, z61, z69, hT8, z54, z73⟩)⟩ := hp8
    · skip
      show XG _ _ _ _ 266 [some (.ref 1000), some (.ref 0), some (.ref 82), some (.int (nI (6 * k)))] [(.int (nI e8.1)), (.int (nI e9.1))] _
      have ee : e9 = e8 := Sum.inl.inj (he9.symm.trans he8)
      refine XG.br eL_law_266 (P := (nI e9.1) = (nI e8.1)) (r := []) rfl (tgt := 1021) (by decide) (fun _ => kk _ ⟨ro1, ro2, S, lv, _, _, _, _, _, _, _, _, _, _, _, _, _, (.ref 6), _, _, _, _, _, _, _, _, _, _, _, _, _, _, _, _, _, h1c, h2c, hc1, hc2, hdis, (iv.bad (by omega) hv9 hf9 hb9 z2 r0 (z17.trans (ee ▸ r1.symm)) hrb).mono (by omega)⟩) (fun h => absurd (by rw [ee]) h)
    · skip
      have w9 := he9.symm.trans hS8
      cases w9
  · skip
    show XG _ _ _ _ 262 [some (.ref 1000), some (.ref 0), some (.ref 82), some (.int (nI (6 * k)))] [(.int (nI 0))] _
    refine XG.blk tL_law_ok 98 1 (pc' := 263) (pl' := [some (.ref 1000), some (.ref 0), some (.ref 82), some (.int (nI (6 * k)))]) (st' := [(.ref 82), (.int (nI 0))]) (W1 := _) (bs := []) rfl rfl rfl ?_
    refine XG.callV (ro := ro2) (W1 := (mW v a b)) (rest := [(.int (nI 0))]) eL_law_263 kl_L_27 (con_read 100 v a b lv (1 - lv) n9 (by omega) iv.v18 evn hn9 iv.k9 (by decide)) fitL rfl h2b rfl (by rw [hc2]; rfl) (Nat.le_of_ble_eq_true rfl) (fun r8 W8 hp8 hl8 => ?_)
    have h1c := sub_pt2 (ro := ro2) (W1 := W8) h1b hdi2
    have h2c := sub_pt h2b hl8
    revert h1c h2c
    generalize px_pt (px_f ro2) ro2 W8 W2 = W3
    intro h1c h2c
    obtain ⟨v9, a9, b9, rfl, z2, hb9, (⟨e8, he8, rfl, z17, hv9, hf9⟩ | ⟨S8, hS8, rfl, z17, z18, z61, z69, hT8, z54, z73⟩)⟩ := hp8
    · skip
      have w9 := hS9.symm.trans he8
      cases w9
    · skip
      show XG _ _ _ _ 266 [some (.ref 1000), some (.ref 0), some (.ref 82), some (.int (nI (6 * k)))] [(.int (nI 0)), (.int (nI 0))] _
      have ee : S9 = S8 := Sum.inr.inj (hS9.symm.trans hS8)
      subst ee
      obtain ⟨i1, i2, -⟩ := read_inv (lex_sm _ _) hS9
      have hX9 : CX S9 (1 - lv) a9 uv9 ua9 := ⟨hT8, i1, i2, by omega, hCT⟩
      have k9' : ∀ q, q < 22 → b9 9 q = lN (enc 27 (wds.getD q [])) := by rw [hb9 9 (by decide)]; exact iv.k9
      have w3' : ∀ q, q < 22 → rb9 3 q = lN (enc 32 (wds.getD q [])) := by rw [hrb]; exact iv.w3
      have hIV : IV 0 S9 (1 - lv) v9 a9 b9 (va_up (va_up bv 10 (nI 0)) 12 (nI 0)) uv9 ua9 rv9 ra9 rb9 (va_up qv 0 (nI 0)) qa nv9 na9 cf cs := IV.good hX9 z18 z61 z69 z2 (z17.trans r1.symm) r0 z54 z73 (hCN _ _ hX9) rfl rfl hnp9 e11 rfl k9' w3'
      obtain ⟨w1, w2⟩ := swap_sub _ _ _ _ _ _ _ _ _ _ _ _ _ _ _ _ _ _ _ _ _ _ _ _ _ _ _
      have h1d := sub_sub h1c w1 w2
      have hme := swap_mem h1c rfl swap_lt
      have hc3 : px_f (([0, 16, 17, 18, 19, 20, 21, 22, 23, 24, 25, 26, 27, 28, 29, 30, 1, 2, 3, 4, 5, 6, 7, 8, 9, 10, 11, 12, 13, 14, 15, 31, 32, 33, 34, 35, 36, 37, 38, 39, 40, 41, 42, 43, 44, 45, 46, 47, 48, 49, 50, 51, 52, 53, 54, 55, 56, 57, 58, 59, 60, 61, 62, 63, 64, 65, 66, 67, 68, 69, 70, 71, 72, 73, 74, 75, 76, 77, 78, 79, 80, 81] : List Nat).map (px_f ro1)) 0 = 0 := hc1
      have hdis9 : ∀ j, j ∈ ro2 → j ∉ ([0, 16, 17, 18, 19, 20, 21, 22, 23, 24, 25, 26, 27, 28, 29, 30, 1, 2, 3, 4, 5, 6, 7, 8, 9, 10, 11, 12, 13, 14, 15, 31, 32, 33, 34, 35, 36, 37, 38, 39, 40, 41, 42, 43, 44, 45, 46, 47, 48, 49, 50, 51, 52, 53, 54, 55, 56, 57, 58, 59, 60, 61, 62, 63, 64, 65, 66, 67, 68, 69, 70, 71, 72, 73, 74, 75, 76, 77, 78, 79, 80, 81] : List Nat).map (px_f ro1) := fun j hj w => hdis j hj (hme j w)
      rw [← sW_G] at h1d
      revert h1d hc3 hdis9
      generalize ([0, 16, 17, 18, 19, 20, 21, 22, 23, 24, 25, 26, 27, 28, 29, 30, 1, 2, 3, 4, 5, 6, 7, 8, 9, 10, 11, 12, 13, 14, 15, 31, 32, 33, 34, 35, 36, 37, 38, 39, 40, 41, 42, 43, 44, 45, 46, 47, 48, 49, 50, 51, 52, 53, 54, 55, 56, 57, 58, 59, 60, 61, 62, 63, 64, 65, 66, 67, 68, 69, 70, 71, 72, 73, 74, 75, 76, 77, 78, 79, 80, 81] : List Nat).map (px_f ro1) = ro3
      intro h1d hc3 hdis9
      refine XG.br eL_law_266 (P := (nI 0) = (nI 0)) (r := []) rfl (tgt := 1021) (by decide) (fun _ => kk _ ⟨ro3, ro2, S9, 1 - lv, _, _, _, _, _, _, _, _, _, _, _, _, _, (.ref 21), _, _, _, _, _, _, _, _, _, _, _, _, _, _, _, _, _, h1d, h2c, hc3, hc2, hdis9, hIV.mono (Nat.zero_le _)⟩) (fun h => absurd rfl h)
