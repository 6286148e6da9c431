/-! THE LAW: what it makes first -/
theorem wf_app {V : px_W} {c : px_E} (hV : px_wf V = true) (hc : px_nrE 0 c = true) : px_wf (V ++ [c]) = true := by
  unfold px_wf
  rw [List.length_append]
  refine List.all_eq_true.mpr (fun x hx => ?_)
  rcases List.mem_append.mp hx with h | h
  · exact nrE_mono (Nat.le_add_right _ _) (List.all_eq_true.mp hV x h)
  · rw [List.mem_singleton] at h
    subst h
    exact nrE_mono (Nat.zero_le _) hc
theorem ro_dis : ∀ j, j ∈ ((List.range 49).map (fun i => 82 + i)) → j ∉ [0, 1, 2, 3, 4, 5, 6, 7, 8, 9, 10, 11, 12, 13, 14, 15, 16, 17, 18, 19, 20, 21, 22, 23, 24, 25, 26, 27, 28, 29, 30, 31, 32, 33, 34, 35, 36, 37, 38, 39, 40, 41, 54, 55, 56, 57, 42, 43, 44, 45, 46, 47, 48, 49, 50, 51, 52, 53, 58, 59, 60, 61, 62, 63, 64, 65, 66, 67, 68, 69, 70, 71, 72, 73, 74, 75, 76, 77, 78, 79, 80, 81] := by decide
set_option maxRecDepth 100000 in
set_option maxHeartbeats 2000000 in
theorem lw_init {L : Nat} {xs : Nat → Int32} (hL : L ≤ 3072) : XG mL_law (px_gL L xs) 0 0 0 [some (.ref 1000), none, none, none] [] [] := by
  refine XG.newL 0 rfl px_gL_ok eL_law_0 ko_L_7 (fun v hv k e => by subst e; simp at hv) (by omega) rfl rfl rfl (show 0 + 1 ≤ room_1.cells by decide) (show 0 + 13 ≤ room_1.slots by decide) ?_
  show XG _ _ 1 13 3 [some (.ref 1000), none, none, none] [(.ref 0)] [.inr (8, [.null, .null, .null, .null, .null, .null, .null, .null, .null, .null, .int 0, .int 0, .int 0])]
  refine XG.blk tL_law_ok 1 1 (pc' := 4) (pl' := [some (.ref 1000), none, none, none]) (st' := [(.ref 0), (.ref 0)]) (W1 := [.inr (8, [.null, .null, .null, .null, .null, .null, .null, .null, .null, .null, .int 0, .int 0, .int 0])]) (bs := []) rfl rfl rfl ?_
  refine XG.callI (ro := [0]) (W1 := [.inr (8, [.null, .null, .null, .null, .null, .null, .null, .null, .null, .null, .int 0, .int 0, .int 0])]) (rest := [(.ref 0)]) px_gL_ok eL_law_4 kI_L_9 (mk_X8 100 (by decide)) (show 100 + 1 ≤ room_1.frames by decide) (show 60 * 100 + 60 ≤ room_1.locals by decide) (show 1 + 81 ≤ room_1.cells by decide) (show 13 + 6312 ≤ room_1.slots by decide) rfl ⟨rfl, by decide, by decide⟩ rfl (Nat.le_of_ble_eq_true rfl) rfl rfl rfl (fun r9 W9 hp9 => ?_) (fun Wc hpc hlc => ?_)
  · obtain ⟨_, _, _, _, _, _, _, _, _, -, hlen, hwf, -, -, -, rfl⟩ := hp9
    refine ⟨rfl, hwf, ?_⟩
    rw [hlen]
    exact (by decide : 1 + (82 - 1) ≤ 1000)
  obtain ⟨tv1, ta1, tb1, tv2, ta2, tb2, rb1, nv2, na2, hsub, hlen, hwf, hR1, hWd, hN2, -⟩ := hpc
  rw [ptA_id _ Wc (by omega) (by omega) hwf]
  refine XG.blk tL_law_ok 3 1 (pc' := 8) (pl' := [some (.ref 1000), some (.ref 0), none, none]) (st' := []) (W1 := Wc) (bs := []) rfl rfl rfl ?_
  refine XG.newL 82 hlen px_gL_ok eL_law_8 ko_L_10 (fun v hv k e => by subst e; simp at hv) (by omega) (by have h9 := hwf; unfold px_wf at h9; rw [hlen] at h9; exact h9) rfl rfl (show 1 + 81 + 1 ≤ room_1.cells by decide) (show 13 + 6312 + 75 ≤ room_1.slots by decide) ?_
  obtain ⟨c9, hc9⟩ : ∃ z : px_E, z = .inr (9, .int 0 :: .null :: .int 0 :: .null :: .int 0 :: .null :: .null :: .null :: .null :: .null :: .int 0 :: .int 0 :: .int 0 :: .int 0 :: .int 0 :: .int 0 :: .int 0 :: .int 0 :: .int 0 :: .int 0 :: .int 0 :: .null :: .null :: .null :: .null :: .null :: .null :: .null :: .null :: .null :: .null :: .null :: .null :: .null :: .null :: .null :: .null :: .null :: .null :: .null :: .int 0 :: .null :: .null :: .null :: .null :: .null :: .int 0 :: .null :: .null :: .null :: .int 0 :: .null :: .null :: .int 0 :: .null :: .null :: .int 0 :: .int 0 :: .null :: .null :: .null :: .int 0 :: .null :: .int 0 :: .int 0 :: .null :: .int 0 :: .int 0 :: .int 0 :: .int 0 :: .null :: .null :: .null :: .null :: .null :: []) := ⟨_, rfl⟩
  show XG _ _ 83 6400 11 [some (.ref 1000), some (.ref 0), none, none] [(.ref 82)] (Wc ++ [.inr (9, .int 0 :: .null :: .int 0 :: .null :: .int 0 :: .null :: .null :: .null :: .null :: .null :: .int 0 :: .int 0 :: .int 0 :: .int 0 :: .int 0 :: .int 0 :: .int 0 :: .int 0 :: .int 0 :: .int 0 :: .int 0 :: .null :: .null :: .null :: .null :: .null :: .null :: .null :: .null :: .null :: .null :: .null :: .null :: .null :: .null :: .null :: .null :: .null :: .null :: .null :: .int 0 :: .null :: .null :: .null :: .null :: .null :: .int 0 :: .null :: .null :: .null :: .int 0 :: .null :: .null :: .int 0 :: .null :: .null :: .int 0 :: .int 0 :: .null :: .null :: .null :: .int 0 :: .null :: .int 0 :: .int 0 :: .null :: .int 0 :: .int 0 :: .int 0 :: .int 0 :: .null :: .null :: .null :: .null :: .null :: [])])
  rw [← hc9]
  have hl83 : (Wc ++ [c9]).length = 83 := by rw [List.length_append, hlen]; rfl
  have e82 : (Wc ++ [c9])[82]? = some c9 := by rw [List.getElem?_append_right (by omega), hlen]; rfl
  have er9 : px_er (px_f [82]) c9 = c9 := by rw [hc9]; rfl
  have hs9 : px_sub [82] (Wc ++ [c9]) [c9] := ⟨by show [(Wc ++ [c9])[82]?] = [some (px_er (px_f [82]) c9)]; rw [e82, er9], by decide, by decide⟩
  refine XG.blk tL_law_ok 5 1 (pc' := 12) (pl' := [some (.ref 1000), some (.ref 0), none, none]) (st' := [(.ref 82), (.ref 82)]) (W1 := Wc ++ [c9]) (bs := []) rfl rfl rfl ?_
  refine XG.callI (ro := [82]) (W1 := [c9]) (rest := [(.ref 82)]) px_gL_ok eL_law_12 kI_L_12 (by rw [hc9]; exact mk_X9 100 (by decide)) (show 100 + 1 ≤ room_1.frames by decide) (show 60 * 100 + 60 ≤ room_1.locals by decide) (show 83 + 48 ≤ room_1.cells by decide) (show 6400 + 15730 ≤ room_1.slots by decide) rfl hs9 rfl (Nat.le_of_ble_eq_true rfl) (wf_app hwf (by rw [hc9]; rfl)) (by rw [hl83]; rfl) (by rw [hl83]; rfl) (fun r9 W9 hp9 => ?_) (fun Wm hpm hlm => ?_)
  · obtain ⟨v, a, b, rfl, -, -, -, -, -, rfl⟩ := hp9
    refine ⟨rfl, wf_lit (n := 49) rfl rfl, ?_⟩
    rw [hl83]
    exact (by decide : 83 + (49 - 1) ≤ 1000)
  obtain ⟨v, a, b, rfl, ⟨z18, z2, z17, z61, z69⟩, hTx, h54, h73, hk9, -⟩ := hpm
  obtain ⟨sm1, sm2⟩ := sub_made (V := Wc) (c := c9) (W1' := mW v a b) (show 1 ≤ 49 by decide) (by rw [hlen]; exact (by decide : 82 + 49 ≤ 1000))
  rw [hlen] at sm1 sm2
  have hmw : (mW v a b).length = 49 := rfl
  rw [hmw] at sm1 sm2
  have hs1 := sub_app hsub ((mW v a b).map (px_er (px_f ((List.range 49).map (fun i => 82 + i)))))
  rw [← sm1] at hs1
  revert hs1 sm2
  generalize px_ptA [82] [c9] (mW v a b) (Wc ++ [c9]) = W3
  intro sm2 hs1
  refine XG.blk tL_law_ok 7 3 (pc' := 18) (pl' := [some (.ref 1000), some (.ref 0), some (.ref 82), some (.int (nI 0))]) (st' := []) (W1 := W3) (bs := []) rfl rfl rfl ?_
  have hX : CX plainD 0 a tv1 ta1 := ⟨hTx, inv_plain.2.1, inv_plain.2.2.1 rfl, by decide, hR1.ctx (by decide)⟩
  have hIV : IV 0 plainD 0 v a b (va_up (va_up (fun _ => 0) 10 (nI 0)) 12 (nI 0)) tv1 ta1 (va_up (fun _ => 0) 1 (-1)) (fun _ _ => 0) rb1 (va_up (fun _ => 0) 0 (nI 0)) (fun _ _ => 0) nv2 na2 (fun _ => 0) (fun _ => 0) := IV.good hX z18 z61 z69 z2 z17 rfl h54 h73 (hN2 0 a hX) rfl rfl (np := 0) (by decide) rfl rfl hk9 hWd
  rw [← sW_G] at hs1
  exact lw_loop hL (L / 6) 0 W3 (by omega) ⟨[0, 1, 2, 3, 4, 5, 6, 7, 8, 9, 10, 11, 12, 13, 14, 15, 16, 17, 18, 19, 20, 21, 22, 23, 24, 25, 26, 27, 28, 29, 30, 31, 32, 33, 34, 35, 36, 37, 38, 39, 40, 41, 54, 55, 56, 57, 42, 43, 44, 45, 46, 47, 48, 49, 50, 51, 52, 53, 58, 59, 60, 61, 62, 63, 64, 65, 66, 67, 68, 69, 70, 71, 72, 73, 74, 75, 76, 77, 78, 79, 80, 81], ((List.range 49).map (fun i => 82 + i)), plainD, 0, v, a, b, _, _, _, _, _, _, _, _, _, _, .null, _, _, _, _, _, _, _, _, _, _, _, _, _, _, _, _, _, hs1, sm2, rfl, rfl, ro_dis, hIV⟩
