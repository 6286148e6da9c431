/-! MAKING: the reader -/
theorem XG.pop {M : px_M} {G : px_G} {nc ns pc : Nat} {pl : px_L} {st : List Value} {W0 : px_W} {x : Int32} (hd : decode M.2.1 pc = .ok (.pop, 1)) (k : XG M G nc ns (pc + 1) pl st W0) : XG M G nc ns pc pl (.int x :: st) W0 := by
  intro p l e s m args below meth c D cA ad0 ad A n0 hC hXt hn H locs ls hP hD hS hl
  obtain ⟨hx, hcode, hml, hown, hts, hr, hlk, hmn, hK, hE⟩ := id hC
  exact lv_pop hx hcode hd rfl (k p l e s m args below meth c D cA ad0 ad A n0 hC hXt hn H locs ls hP hD hS hl)
theorem cs_pchk (d j n : Nat) (hj : j < n) (hn : n < 2 ^ 31) : Con mJ3_checkIndex_8e157 d [.int (nI j), .int (nI n), .ref 1005] [] (fun r _ => r = some (.int (nI j))) := by
  refine Con.ofF pf_pchk (Nat.le_of_ble_eq_true rfl) ?_
  refine XG.blk tJ3_checkIndex_8e157_ok 0 1 (pc' := 1) (pl' := [some (.int (nI j)), some (.int (nI n)), some (.ref 1005)]) (st' := [.int (nI j)]) (W1 := []) (bs := []) rfl rfl rfl ?_
  refine XG.br eJ3_checkIndex_8e157_1 (P := nI j < 0) (r := []) rfl (tgt := 9) (by decide) (fun h => absurd h (nI_nn (by omega))) (fun _ => ?_)
  refine XG.blk tJ3_checkIndex_8e157_ok 1 2 (pc' := 6) (pl' := [some (.int (nI j)), some (.int (nI n)), some (.ref 1005)]) (st' := [.int (nI n), .int (nI j)]) (W1 := []) (bs := []) rfl rfl rfl ?_
  refine XG.br eJ3_checkIndex_8e157_6 (P := nI j < nI n) (r := []) rfl (tgt := 16) (by decide) (fun _ => ?_) (fun h => absurd ((nI_ltI (by omega) (by omega)).mpr hj) h)
  refine XG.blk tJ3_checkIndex_8e157_ok 6 1 (pc' := 17) (pl' := [some (.int (nI j)), some (.int (nI n)), some (.ref 1005)]) (st' := [.int (nI j)]) (W1 := []) (bs := []) rfl rfl rfl ?_
  exact XS.iret eJ3_checkIndex_8e157_17 rfl rfl rfl
theorem cs_pchkN (d j n : Nat) (hj : j < n) (hn : n < 2 ^ 31) : Con mJ3_checkIndex_8e157 d [.int (nI j), .int (nI n), .null] [] (fun r _ => r = some (.int (nI j))) := by
  refine Con.ofF pf_pchk (Nat.le_of_ble_eq_true rfl) ?_
  refine XG.blk tJ3_checkIndex_8e157_ok 0 1 (pc' := 1) (pl' := [some (.int (nI j)), some (.int (nI n)), some (.null)]) (st' := [.int (nI j)]) (W1 := []) (bs := []) rfl rfl rfl ?_
  refine XG.br eJ3_checkIndex_8e157_1 (P := nI j < 0) (r := []) rfl (tgt := 9) (by decide) (fun h => absurd h (nI_nn (by omega))) (fun _ => ?_)
  refine XG.blk tJ3_checkIndex_8e157_ok 1 2 (pc' := 6) (pl' := [some (.int (nI j)), some (.int (nI n)), some (.null)]) (st' := [.int (nI n), .int (nI j)]) (W1 := []) (bs := []) rfl rfl rfl ?_
  refine XG.br eJ3_checkIndex_8e157_6 (P := nI j < nI n) (r := []) rfl (tgt := 16) (by decide) (fun _ => ?_) (fun h => absurd ((nI_ltI (by omega) (by omega)).mpr hj) h)
  refine XG.blk tJ3_checkIndex_8e157_ok 6 1 (pc' := 17) (pl' := [some (.int (nI j)), some (.int (nI n)), some (.null)]) (st' := [.int (nI j)]) (W1 := []) (bs := []) rfl rfl rfl ?_
  exact XS.iret eJ3_checkIndex_8e157_17 rfl rfl rfl
theorem XG.stic2 {M : px_M} {G : px_G} {nc ns pc idx : Nat} {pl : px_L} {st : List Value} {W0 : px_W} {v w : Value} {C nm ds : String} (hd : decode M.2.1 pc = .ok (.getstatic idx, 3)) (hk : Cond.fieldLink M.1.cls idx C nm ds ∈ px_tbl) (hv : ∀ (ad : Nat → Nat) (A : Nat → Prop) (U : State), px_E0 ad A U → va_Z C nm ds (px_tr ad v) A U U.heap ∨ va_Z C nm ds (px_tr ad w) A U U.heap) (k1 : XG M G nc ns (pc + 3) pl (v :: st) W0) (k2 : XG M G nc ns (pc + 3) pl (w :: st) W0) : XG M G nc ns pc pl st W0 := by
  intro p l e s m args below meth c D cA ad0 ad A n0 hC hXt hn H locs ls hP hD hS hl
  obtain ⟨hx, hcode, hml, hown, hts, hr, hlk, hmn, hK, hE, hA⟩ := id hC
  rcases hv ad A s hE with h9 | h9
  · exact va_gets hx hcode h9 hS hown (hts _ hk) (fun _ h => h) hd (k1 p l e s m args below meth c D cA ad0 ad A n0 hC hXt hn H locs ls hP hD hS hl)
  · exact va_gets hx hcode h9 hS hown (hts _ hk) (fun _ h => h) hd (k2 p l e s m args below meth c D cA ad0 ad A n0 hC hXt hn H locs ls hP hD hS hl)
theorem cs_chk (d j n : Nat) (hj : j < n) (hn : n < 2 ^ 31) (hd : 1 ≤ d) : Con mJ0_checkIndex_df160 d [.int (nI j), .int (nI n)] [] (fun r _ => r = none) := by
  refine Con.ofF pf_chk (Nat.le_of_ble_eq_true rfl) ?_
  refine XG.blk tJ0_checkIndex_df160_ok 0 2 (pc' := 2) (pl' := [some (.int (nI j)), some (.int (nI n))]) (st' := [.int (nI n), .int (nI j)]) (W1 := []) (bs := []) rfl rfl rfl ?_
  refine XG.stic2 eJ0_checkIndex_df160_2 fs_1053 sE_sioobe ?_ ?_
  · refine XG.callSp (r := some (.int (nI j))) eJ0_checkIndex_df160_5 ks_String_1059 (cs_pchkN (d - 1) j n hj hn) (px_fitS (by omega)) rfl rfl rfl rfl (Nat.le_of_ble_eq_true rfl) ?_
    refine XG.pop eJ0_checkIndex_df160_8 ?_
    exact XS.vret eJ0_checkIndex_df160_9 rfl rfl
  · refine XG.callSp (r := some (.int (nI j))) eJ0_checkIndex_df160_5 ks_String_1059 (cs_pchk (d - 1) j n hj hn) (px_fitS (by omega)) rfl (by show [_, _, Value.ref (px_f [] 1005)] = _; rw [px_f_up [] (by omega)]; rfl) rfl rfl (Nat.le_of_ble_eq_true rfl) ?_
    refine XG.pop eJ0_checkIndex_df160_8 ?_
    exact XS.vret eJ0_checkIndex_df160_9 rfl rfl
abbrev sB (j : Nat) : Int32 := (px_sbyt.getD 0 []).getD j 0
abbrev sN : Nat := px_slen.getD 0 0
theorem sN_lt : sN < 2000 := slen_lt (by decide)
theorem sB_ok : ∀ j : Fin sN, (((sB j.val &&& nI 255)).toUInt32 % 65536).toInt32 = sB j.val ∧ narrow .char (.int (sB j.val)) = .int (sB j.val) := by decide +kernel
theorem cs_lchar (d j : Nat) (hj : j < sN) (hd : 2 ≤ d) : Con mJ1_charAt_3b067 d [.ref 1003, .int (nI j)] [] (fun r _ => r = some (.int (sB j))) := by
  have hl := sN_lt
  refine Con.ofF pf_lcharAt (Nat.le_of_ble_eq_true rfl) ?_
  refine XG.blk tJ1_charAt_3b067_ok 0 2 (pc' := 2) (pl' := [some (.ref 1003), some (.int (nI j))]) (st' := [.ref 1003, .int (nI j)]) (W1 := []) (bs := []) rfl rfl rfl ?_
  refine XG.slen (i := 0) (by decide) eJ1_charAt_3b067_2 ?_
  refine XG.callSp (r := none) eJ1_charAt_3b067_3 ks_StringLatin1_9 (cs_chk (d - 1) j sN hj (by omega) (by omega)) (px_fitS (by omega)) rfl rfl rfl rfl (Nat.le_of_ble_eq_true rfl) ?_
  refine XG.blk tJ1_charAt_3b067_ok 2 2 (pc' := 8) (pl' := [some (.ref 1003), some (.int (nI j))]) (st' := [.int (nI j), .ref 1003]) (W1 := []) (bs := []) rfl rfl rfl ?_
  refine XG.sbald (i := 0) (by decide) hj (by omega) (Nat.lt_of_lt_of_le hl (by decide)) eJ1_charAt_3b067_8 ?_
  refine XG.blk tJ1_charAt_3b067_ok 4 3 (pc' := 14) (pl' := [some (.ref 1003), some (.int (nI j))]) (st' := [.int (((sB j &&& nI 255)).toUInt32 % 65536).toInt32]) (W1 := []) (bs := []) rfl rfl rfl ?_
  rw [(sB_ok ⟨j, hj⟩).1]
  exact XS.iret eJ1_charAt_3b067_14 rfl (sB_ok ⟨j, hj⟩).2 rfl
theorem cs_charAt (d j : Nat) (hj : j < sN) (hd : 3 ≤ d) : Con mJ0_charAt_5068e d [.ref 1001, .int (nI j)] [] (fun r _ => r = some (.int (sB j))) := by
  refine Con.ofF pf_charAt (Nat.le_of_ble_eq_true rfl) ?_
  refine XG.blk tJ0_charAt_5068e_ok 0 1 (pc' := 1) (pl' := [some (.ref 1001), some (.int (nI j))]) (st' := [.ref 1001]) (W1 := []) (bs := []) rfl rfl rfl ?_
  refine XG.callVs (i := 0) (r := some (.int 1)) (by decide) eJ0_charAt_5068e_1 ks_String_492 (cs_isLatin1 (d - 1) 0 (by decide)) (px_fitS (by omega)) rfl rfl rfl rfl (Nat.le_of_ble_eq_true rfl) ?_
  refine XG.br eJ0_charAt_5068e_4 (P := (1 : Int32) = 0) (r := []) rfl (tgt := 16) (by decide) (fun h => absurd h (by decide)) (fun _ => ?_)
  refine XG.blk tJ0_charAt_5068e_ok 1 1 (pc' := 8) (pl' := [some (.ref 1001), some (.int (nI j))]) (st' := [.ref 1001]) (W1 := []) (bs := []) rfl rfl rfl ?_
  refine XG.sget eJ0_charAt_5068e_8 fs_9 (sE_value (i := 0) (by decide)) ?_
  refine XG.blk tJ0_charAt_5068e_ok 2 1 (pc' := 12) (pl' := [some (.ref 1001), some (.int (nI j))]) (st' := [.int (nI j), .ref 1003]) (W1 := []) (bs := []) rfl rfl rfl ?_
  refine XG.callSp (r := some (.int (sB j))) eJ0_charAt_5068e_12 ks_String_495 (cs_lchar (d - 1) j hj (by omega)) (px_fitS (by omega)) rfl (by show [Value.ref (px_f [] 1003), _] = _; rw [px_f_up [] (by omega)]; rfl) rfl rfl (Nat.le_of_ble_eq_true rfl) ?_
  exact XS.iret eJ0_charAt_5068e_15 rfl (sB_ok ⟨j, hj⟩).2 rfl
def wlF (x : Int64) (y : Int32) : Int64 := (x <<< ((nI 5).toInt64 &&& 63)) ||| (y - nI 97 + nI 1).toInt64
def sStp (j : Nat) (p : Nat × (Nat → Int64)) : Nat × (Nat → Int64) := if sB j = nI 32 then (p.1 + 1, p.2) else (p.1, vp_updL p.2 p.1 (wlF (p.2 p.1) (sB j)))
def sT : Nat → Nat × (Nat → Int64) := itN sStp (0, fun _ => 0)
theorem itN_s {α : Type} (f : Nat → α → α) (x : α) (n : Nat) : itN f x (n + 1) = f n (itN f x n) := rfl
theorem sStp_s {j : Nat} {p : Nat × (Nat → Int64)} (h : sB j = nI 32) : sStp j p = (p.1 + 1, p.2) := by
  unfold sStp
  rw [if_pos h]
theorem sStp_l {j : Nat} {p : Nat × (Nat → Int64)} (h : ¬ sB j = nI 32) : sStp j p = (p.1, vp_updL p.2 p.1 (wlF (p.2 p.1) (sB j))) := by
  unfold sStp
  rw [if_neg h]
theorem sT_w : ∀ j, j < sN → (sT j).1 < 22 := by decide +kernel
theorem sT_fin : ∀ q, q < 22 → (sT sN).2 q = lN (enc 32 (wds.getD q [])) := by decide +kernel
theorem sT_0 : sT 0 = (0, fun _ => 0) := rfl
theorem sT_ex : ∃ T : Nat → Nat × (Nat → Int64), T 0 = (0, fun _ => 0) ∧ (∀ j, sB j = nI 32 → T (j + 1) = ((T j).1 + 1, (T j).2)) ∧ (∀ j, ¬ sB j = nI 32 → T (j + 1) = ((T j).1, vp_updL (T j).2 (T j).1 (wlF ((T j).2 (T j).1) (sB j)))) ∧ (∀ j, j < sN → (T j).1 < 22) ∧ ∀ q, q < 22 → (T sN).2 q = lN (enc 32 (wds.getD q [])) := ⟨sT, sT_0, fun j h => by unfold sT; rw [itN_s, sStp_s h], fun j h => by unfold sT; rw [itN_s, sStp_l h], sT_w, sT_fin⟩
set_option maxHeartbeats 4000000 in
theorem mk_X3 (d : Nat) (hd : 5 ≤ d) : ConA mX3_init d 5 3228 [.ref 0] [.inr (3, [.int 0, .int 0, .null, .null, .null, .null, .null, .int 0, .int 0, .int 0, .int 0, .int 0, .null])] (fun r W' => ∃ rb, W' = dW (va_up (fun _ => 0) 1 (-1)) (fun _ _ => 0) rb .null [] ∧ (∀ q, q < 22 → rb 3 q = lN (enc 32 (wds.getD q []))) ∧ r = none) := by
  refine ConA.of (by decide) (Nat.le_of_ble_eq_true rfl) (Nat.le_of_ble_eq_true rfl) ?_
  have hsN := sN_lt
  obtain ⟨T, T0, Ts, Tl, Tw, Tf⟩ := sT_ex
  refine XG.blk tX3_init_ok 0 1 (pc' := 1) (pl' := [some (.ref 0), none, none, none]) (st' := [(.ref 0)]) (W1 := [.inr (3, [.int 0, .int 0, .null, .null, .null, .null, .null, .int 0, .int 0, .int 0, .int 0, .int 0, .null])]) (bs := []) rfl rfl rfl ?_
  refine XG.obj eX3_init_1 ki0_X3_3 (show 1 ≤ d by omega) (show 60 ≤ 60 * d by omega) (Nat.le_of_ble_eq_true rfl) ?_
  refine XG.blk tX3_init_ok 2 5 (pc' := 13) (pl' := [some (.ref 0), none, none, none]) (st' := [(.int (nI 2000)), (.ref 0)]) (W1 := [.inr (3, [.int 0, .int (-1), .null, .null, .null, .null, .null, .int 0, .int 0, .int 0, .int 0, .int 0, .null])]) (bs := []) rfl rfl rfl ?_
  refine XG.newaL (k := 2000) 1 (by rfl) px_gA_ok eX3_init_13 ka_byte rfl (nI_nn (by omega)) (nI_clamp (by omega)) (by omega) (by omega) (by rfl) (by rfl) (by rfl) (Nat.le_of_ble_eq_true (by rfl)) (Nat.le_of_ble_eq_true (by rfl)) ?_
  show XG _ _ 1 2000 15 [some (.ref 0), none, none, none] [(.ref 1), (.ref 0)] [.inr (3, [.int 0, .int (-1), .null, .null, .null, .null, .null, .int 0, .int 0, .int 0, .int 0, .int 0, .null]), .inl (.byte, 2000, .inl (fun _ => 0))]
  refine XG.putF (a := 3) (b := 2) eX3_init_15 kf_X3_15 rfl rfl (Nat.le_of_ble_eq_true rfl) ?_
  show XG _ _ 1 2000 18 [some (.ref 0), none, none, none] [] [.inr (3, [.int 0, .int (-1), .ref 1, .null, .null, .null, .null, .int 0, .int 0, .int 0, .int 0, .int 0, .null]), .inl (.byte, 2000, .inl (fun _ => 0))]
  refine XG.blk tX3_init_ok 8 2 (pc' := 21) (pl' := [some (.ref 0), none, none, none]) (st' := [(.int (nI 22)), (.ref 0)]) (W1 := [.inr (3, [.int 0, .int (-1), .ref 1, .null, .null, .null, .null, .int 0, .int 0, .int 0, .int 0, .int 0, .null]), .inl (.byte, 2000, .inl (fun _ => 0))]) (bs := []) rfl rfl rfl ?_
  refine XG.newaL (k := 22) 2 (by rfl) px_gA_ok eX3_init_21 ka_long rfl (nI_nn (by omega)) (nI_clamp (by omega)) (by omega) (by omega) (by rfl) (by rfl) (by rfl) (Nat.le_of_ble_eq_true (by rfl)) (Nat.le_of_ble_eq_true (by rfl)) ?_
  show XG _ _ 2 2022 23 [some (.ref 0), none, none, none] [(.ref 2), (.ref 0)] [.inr (3, [.int 0, .int (-1), .ref 1, .null, .null, .null, .null, .int 0, .int 0, .int 0, .int 0, .int 0, .null]), .inl (.byte, 2000, .inl (fun _ => 0)), .inl (.long, 22, .inr (.inl (fun _ => 0)))]
  refine XG.putF (a := 3) (b := 3) eX3_init_23 kf_X3_19 rfl rfl (Nat.le_of_ble_eq_true rfl) ?_
  show XG _ _ 2 2022 26 [some (.ref 0), none, none, none] [] [.inr (3, [.int 0, .int (-1), .ref 1, .ref 2, .null, .null, .null, .int 0, .int 0, .int 0, .int 0, .int 0, .null]), .inl (.byte, 2000, .inl (fun _ => 0)), .inl (.long, 22, .inr (.inl (fun _ => 0)))]
  refine XG.blk tX3_init_ok 11 2 (pc' := 30) (pl' := [some (.ref 0), none, none, none]) (st' := [(.int (nI 402)), (.ref 0)]) (W1 := [.inr (3, [.int 0, .int (-1), .ref 1, .ref 2, .null, .null, .null, .int 0, .int 0, .int 0, .int 0, .int 0, .null]), .inl (.byte, 2000, .inl (fun _ => 0)), .inl (.long, 22, .inr (.inl (fun _ => 0)))]) (bs := []) rfl rfl rfl ?_
  refine XG.newaL (k := 402) 3 (by rfl) px_gA_ok eX3_init_30 ka_int rfl (nI_nn (by omega)) (nI_clamp (by omega)) (by omega) (by omega) (by rfl) (by rfl) (by rfl) (Nat.le_of_ble_eq_true (by rfl)) (Nat.le_of_ble_eq_true (by rfl)) ?_
  show XG _ _ 3 2424 32 [some (.ref 0), none, none, none] [(.ref 3), (.ref 0)] [.inr (3, [.int 0, .int (-1), .ref 1, .ref 2, .null, .null, .null, .int 0, .int 0, .int 0, .int 0, .int 0, .null]), .inl (.byte, 2000, .inl (fun _ => 0)), .inl (.long, 22, .inr (.inl (fun _ => 0))), .inl (.int, 402, .inl (fun _ => 0))]
  refine XG.putF (a := 3) (b := 4) eX3_init_32 kf_X3_23 rfl rfl (Nat.le_of_ble_eq_true rfl) ?_
  show XG _ _ 3 2424 35 [some (.ref 0), none, none, none] [] [.inr (3, [.int 0, .int (-1), .ref 1, .ref 2, .ref 3, .null, .null, .int 0, .int 0, .int 0, .int 0, .int 0, .null]), .inl (.byte, 2000, .inl (fun _ => 0)), .inl (.long, 22, .inr (.inl (fun _ => 0))), .inl (.int, 402, .inl (fun _ => 0))]
  refine XG.blk tX3_init_ok 14 2 (pc' := 39) (pl' := [some (.ref 0), none, none, none]) (st' := [(.int (nI 402)), (.ref 0)]) (W1 := [.inr (3, [.int 0, .int (-1), .ref 1, .ref 2, .ref 3, .null, .null, .int 0, .int 0, .int 0, .int 0, .int 0, .null]), .inl (.byte, 2000, .inl (fun _ => 0)), .inl (.long, 22, .inr (.inl (fun _ => 0))), .inl (.int, 402, .inl (fun _ => 0))]) (bs := []) rfl rfl rfl ?_
  refine XG.newaL (k := 402) 4 (by rfl) px_gA_ok eX3_init_39 ka_int rfl (nI_nn (by omega)) (nI_clamp (by omega)) (by omega) (by omega) (by rfl) (by rfl) (by rfl) (Nat.le_of_ble_eq_true (by rfl)) (Nat.le_of_ble_eq_true (by rfl)) ?_
  show XG _ _ 4 2826 41 [some (.ref 0), none, none, none] [(.ref 4), (.ref 0)] [.inr (3, [.int 0, .int (-1), .ref 1, .ref 2, .ref 3, .null, .null, .int 0, .int 0, .int 0, .int 0, .int 0, .null]), .inl (.byte, 2000, .inl (fun _ => 0)), .inl (.long, 22, .inr (.inl (fun _ => 0))), .inl (.int, 402, .inl (fun _ => 0)), .inl (.int, 402, .inl (fun _ => 0))]
  refine XG.putF (a := 3) (b := 5) eX3_init_41 kf_X3_27 rfl rfl (Nat.le_of_ble_eq_true rfl) ?_
  show XG _ _ 4 2826 44 [some (.ref 0), none, none, none] [] [.inr (3, [.int 0, .int (-1), .ref 1, .ref 2, .ref 3, .ref 4, .null, .int 0, .int 0, .int 0, .int 0, .int 0, .null]), .inl (.byte, 2000, .inl (fun _ => 0)), .inl (.long, 22, .inr (.inl (fun _ => 0))), .inl (.int, 402, .inl (fun _ => 0)), .inl (.int, 402, .inl (fun _ => 0))]
  refine XG.blk tX3_init_ok 17 2 (pc' := 48) (pl' := [some (.ref 0), none, none, none]) (st' := [(.int (nI 402)), (.ref 0)]) (W1 := [.inr (3, [.int 0, .int (-1), .ref 1, .ref 2, .ref 3, .ref 4, .null, .int 0, .int 0, .int 0, .int 0, .int 0, .null]), .inl (.byte, 2000, .inl (fun _ => 0)), .inl (.long, 22, .inr (.inl (fun _ => 0))), .inl (.int, 402, .inl (fun _ => 0)), .inl (.int, 402, .inl (fun _ => 0))]) (bs := []) rfl rfl rfl ?_
  refine XG.newaL (k := 402) 5 (by rfl) px_gA_ok eX3_init_48 ka_long rfl (nI_nn (by omega)) (nI_clamp (by omega)) (by omega) (by omega) (by rfl) (by rfl) (by rfl) (Nat.le_of_ble_eq_true (by rfl)) (Nat.le_of_ble_eq_true (by rfl)) ?_
  show XG _ _ 5 3228 50 [some (.ref 0), none, none, none] [(.ref 5), (.ref 0)] [.inr (3, [.int 0, .int (-1), .ref 1, .ref 2, .ref 3, .ref 4, .null, .int 0, .int 0, .int 0, .int 0, .int 0, .null]), .inl (.byte, 2000, .inl (fun _ => 0)), .inl (.long, 22, .inr (.inl (fun _ => 0))), .inl (.int, 402, .inl (fun _ => 0)), .inl (.int, 402, .inl (fun _ => 0)), .inl (.long, 402, .inr (.inl (fun _ => 0)))]
  refine XG.putF (a := 3) (b := 6) eX3_init_50 kf_X3_30 rfl rfl (Nat.le_of_ble_eq_true rfl) ?_
  show XG _ _ 5 3228 53 [some (.ref 0), none, none, none] [] [.inr (3, [.int 0, .int (-1), .ref 1, .ref 2, .ref 3, .ref 4, .ref 5, .int 0, .int 0, .int 0, .int 0, .int 0, .null]), .inl (.byte, 2000, .inl (fun _ => 0)), .inl (.long, 22, .inr (.inl (fun _ => 0))), .inl (.int, 402, .inl (fun _ => 0)), .inl (.int, 402, .inl (fun _ => 0)), .inl (.long, 402, .inr (.inl (fun _ => 0)))]
  show XG _ _ 5 3228 53 [some (.ref 0), none, none, none] [] (dW (va_up (fun _ => 0) 1 (-1)) (fun _ _ => 0) (va_up (fun _ _ => 0) 3 (fun _ => 0)) .null [])
  rw [show (va_up (fun _ _ => 0) 3 (fun _ => 0) : Nat → Nat → Int64) = va_up (fun _ _ => 0) 3 (T 0).2 from by rw [T0]]
  show XG _ _ 5 3228 53 [some (.ref 0), none, none, none] [] (dW (va_up (fun _ => 0) 1 (-1)) (fun _ _ => 0) (va_up (fun _ _ => 0) 3 (T 0).2) .null [])
  refine XG.blk tX3_init_ok 20 4 (pc' := 57) (pl' := [some (.ref 0), some (.int (nI 0)), some (.int (nI 0)), none]) (st' := []) (W1 := (dW (va_up (fun _ => 0) 1 (-1)) (fun _ _ => 0) (va_up (fun _ _ => 0) 3 (T 0).2) .null [])) (bs := []) rfl rfl rfl ?_
  rw [show ([some (.ref 0), some (.int (nI 0)), some (.int (nI 0)), none] : px_L) = [some (.ref 0), some (.int (nI (T 0).1)), some (.int (nI 0)), none] from by rw [T0]]
  refine px_for sN (fun i => XG mX3_init _ 5 3228 57 [some (.ref 0), some (.int (nI (T i).1)), some (.int (nI i)), none] [] (dW (va_up (fun _ => 0) 1 (-1)) (fun _ _ => 0) (va_up (fun _ _ => 0) 3 (T i).2) .null [])) ?_ ?_ 0 (Nat.zero_le _)
  · skip
    refine XG.blk tX3_init_ok 24 1 (pc' := 58) (pl' := [some (.ref 0), some (.int (nI (T sN).1)), some (.int (nI sN)), none]) (st' := [(.int (nI sN))]) (W1 := (dW (va_up (fun _ => 0) 1 (-1)) (fun _ _ => 0) (va_up (fun _ _ => 0) 3 (T sN).2) .null [])) (bs := []) rfl rfl rfl ?_
    refine XG.ldcS (q := 1001) eX3_init_58 (fun _ _ _ h => h.2.1) ?_
    refine XG.callVs (i := 0) (r := some (.int (nI sN))) (by decide) eX3_init_60 ks_Reader_35 (cs_length (d - 1) 0 (by decide) (by omega)) ⟨(show d - 1 + 1 ≤ d by omega), (show 60 * (d - 1) + 60 ≤ 60 * d by omega), Nat.le_of_ble_eq_true rfl, Nat.le_of_ble_eq_true rfl⟩ rfl rfl rfl rfl (Nat.le_of_ble_eq_true rfl) ?_
    refine XG.br eX3_init_63 (P := (nI sN) ≤ (nI sN)) (r := []) rfl (tgt := 113) (by decide) (fun h63 => ?_) (fun h63 => ?_)
    · skip
      have g63 : sN ≤ sN := (nI_leI (a := sN) (b := sN) (by omega) (by omega)).mp h63
      refine XG.vretA eX3_init_113 rfl (Nat.le_of_ble_eq_true rfl) (Nat.le_of_ble_eq_true rfl) ?_
      exact ⟨_, rfl, Tf, rfl⟩
    · exfalso
      have g63 : ¬ sN ≤ sN := (fun z_9 => h63 ((nI_leI (a := sN) (b := sN) (by omega) (by omega)).mpr z_9))
      omega
  · intro i hi ihi
    have hw22 : (T i).1 < 22 := Tw i hi
    refine XG.blk tX3_init_ok 24 1 (pc' := 58) (pl' := [some (.ref 0), some (.int (nI (T i).1)), some (.int (nI i)), none]) (st' := [(.int (nI i))]) (W1 := (dW (va_up (fun _ => 0) 1 (-1)) (fun _ _ => 0) (va_up (fun _ _ => 0) 3 (T i).2) .null [])) (bs := []) rfl rfl rfl ?_
    refine XG.ldcS (q := 1001) eX3_init_58 (fun _ _ _ h => h.2.1) ?_
    refine XG.callVs (i := 0) (r := some (.int (nI sN))) (by decide) eX3_init_60 ks_Reader_35 (cs_length (d - 1) 0 (by decide) (by omega)) ⟨(show d - 1 + 1 ≤ d by omega), (show 60 * (d - 1) + 60 ≤ 60 * d by omega), Nat.le_of_ble_eq_true rfl, Nat.le_of_ble_eq_true rfl⟩ rfl rfl rfl rfl (Nat.le_of_ble_eq_true rfl) ?_
    refine XG.br eX3_init_63 (P := (nI sN) ≤ (nI i)) (r := []) rfl (tgt := 113) (by decide) (fun h63 => ?_) (fun h63 => ?_)
    · exfalso
      have g63 : sN ≤ i := (nI_leI (a := sN) (b := i) (by omega) (by omega)).mp h63
      omega
    · skip
      have g63 : ¬ sN ≤ i := (fun z_9 => h63 ((nI_leI (a := sN) (b := i) (by omega) (by omega)).mpr z_9))
      refine XG.ldcS (q := 1001) eX3_init_66 (fun _ _ _ h => h.2.1) ?_
      refine XG.blk tX3_init_ok 27 1 (pc' := 69) (pl' := [some (.ref 0), some (.int (nI (T i).1)), some (.int (nI i)), none]) (st' := [(.int (nI i)), (.ref 1001)]) (W1 := (dW (va_up (fun _ => 0) 1 (-1)) (fun _ _ => 0) (va_up (fun _ _ => 0) 3 (T i).2) .null [])) (bs := []) rfl rfl rfl ?_
      refine XG.callVs (i := 0) (r := some (.int (sB i))) (by decide) eX3_init_69 ks_Reader_41 (cs_charAt (d - 1) i (by omega) (by omega)) ⟨(show d - 1 + 1 ≤ d by omega), (show 60 * (d - 1) + 60 ≤ 60 * d by omega), Nat.le_of_ble_eq_true rfl, Nat.le_of_ble_eq_true rfl⟩ rfl rfl rfl rfl (Nat.le_of_ble_eq_true rfl) ?_
      refine XG.blk tX3_init_ok 29 3 (pc' := 76) (pl' := [some (.ref 0), some (.int (nI (T i).1)), some (.int (nI i)), some (.int (sB i))]) (st' := [(.int (nI 32)), (.int (sB i))]) (W1 := (dW (va_up (fun _ => 0) 1 (-1)) (fun _ _ => 0) (va_up (fun _ _ => 0) 3 (T i).2) .null [])) (bs := []) rfl rfl rfl ?_
      refine XG.br eX3_init_76 (P := ¬ (sB i) = (nI 32)) (r := []) rfl (tgt := 85) (by decide) (fun h76 => ?_) (fun h76 => ?_)
      · skip
        refine XG.blk tX3_init_ok 35 2 (pc' := 88) (pl' := [some (.ref 0), some (.int (nI (T i).1)), some (.int (nI i)), some (.int (sB i))]) (st' := [(.int (nI 22)), (.int (nI (T i).1))]) (W1 := (dW (va_up (fun _ => 0) 1 (-1)) (fun _ _ => 0) (va_up (fun _ _ => 0) 3 (T i).2) .null [])) (bs := []) rfl rfl rfl ?_
        refine XG.br eX3_init_88 (P := (nI 22) ≤ (nI (T i).1)) (r := []) rfl (tgt := 107) (by decide) (fun h88 => ?_) (fun h88 => ?_)
        · exfalso
          have g88 : 22 ≤ (T i).1 := (nI_leI (a := 22) (b := (T i).1) (by omega) (by omega)).mp h88
          omega
        · skip
          have g88 : ¬ 22 ≤ (T i).1 := (fun z_9 => h88 ((nI_leI (a := 22) (b := (T i).1) (by omega) (by omega)).mpr z_9))
          have q1 : (nI (T i).1).toNatClampNeg = (T i).1 := nI_clamp (by omega)
          refine XG.blk tX3_init_ok 38 8 (pc' := 103) (pl' := [some (.ref 0), some (.int (nI (T i).1)), some (.int (nI i)), some (.int (sB i))]) (st' := [(.int (sB i)), (.long ((T i).2 (nI (T i).1).toNatClampNeg)), (.int (nI (T i).1)), (.ref 2)]) (W1 := (dW (va_up (fun _ => 0) 1 (-1)) (fun _ _ => 0) (va_up (fun _ _ => 0) 3 (T i).2) .null [])) (bs := [px_vb (nI (T i).1) 22]) rfl rfl (by (try simp only [q1]); exact (px_all (px_vbN (by omega) (by decide)) rfl)) ?_
          simp only [q1]
          refine XG.callSp (r := some (.long (wlF ((T i).2 (T i).1) (sB i)))) eX3_init_103 kl_X3_45 (cc_withLetter (d - 1) ((T i).2 (T i).1) (sB i)) ⟨(show d - 1 + 1 ≤ d by omega), (show 60 * (d - 1) + 60 ≤ 60 * d by omega), Nat.le_of_ble_eq_true rfl, Nat.le_of_ble_eq_true rfl⟩ rfl rfl rfl rfl (Nat.le_of_ble_eq_true rfl) ?_
          have q2 : (nI (T i).1).toNatClampNeg = (T i).1 := nI_clamp (by omega)
          have q3 : ((nI i) + (nI 1)) = (nI (i + 1)) := px_eadd rfl rfl
          refine XG.blk tX3_init_ok 47 2 (pc' := 110) (pl' := [some (.ref 0), some (.int (nI (T i).1)), some (.int ((nI i) + (nI 1))), some (.int (sB i))]) (st' := []) (W1 := (dW (va_up (fun _ => 0) 1 (-1)) (fun _ _ => 0) (va_up (fun _ _ => 0) 3 (vp_updL (T i).2 (nI (T i).1).toNatClampNeg (wlF ((T i).2 (T i).1) (sB i)))) .null [])) (bs := [px_vb (nI (T i).1) 22]) rfl rfl (by (try simp only [q2, q3]); exact (px_all (px_vbN (by omega) (by decide)) rfl)) ?_
          simp only [q2, q3]
          refine XG.goto eX3_init_110 (tgt := 57) (by decide) ?_
          refine XG.weak (pl' := [some (.ref 0), some (.int (nI (T i).1)), some (.int (nI (i + 1))), none]) ⟨rfl, rfl, rfl, trivial⟩ ?_
          rw [Tl i h76] at ihi
          exact ihi
      · skip
        have h76 := Decidable.not_not.mp h76
        have q4 : ((nI (T i).1) + (nI 1)) = (nI ((T i).1 + 1)) := px_eadd rfl rfl
        refine XG.blk tX3_init_ok 33 1 (pc' := 82) (pl' := [some (.ref 0), some (.int ((nI (T i).1) + (nI 1))), some (.int (nI i)), some (.int (sB i))]) (st' := []) (W1 := (dW (va_up (fun _ => 0) 1 (-1)) (fun _ _ => 0) (va_up (fun _ _ => 0) 3 (T i).2) .null [])) (bs := []) rfl rfl rfl ?_
        simp only [q4]
        refine XG.goto eX3_init_82 (tgt := 107) (by decide) ?_
        have q5 : ((nI i) + (nI 1)) = (nI (i + 1)) := px_eadd rfl rfl
        refine XG.blk tX3_init_ok 48 1 (pc' := 110) (pl' := [some (.ref 0), some (.int (nI ((T i).1 + 1))), some (.int ((nI i) + (nI 1))), some (.int (sB i))]) (st' := []) (W1 := (dW (va_up (fun _ => 0) 1 (-1)) (fun _ _ => 0) (va_up (fun _ _ => 0) 3 (T i).2) .null [])) (bs := []) rfl rfl rfl ?_
        simp only [q5]
        refine XG.goto eX3_init_110 (tgt := 57) (by decide) ?_
        refine XG.weak (pl' := [some (.ref 0), some (.int (nI ((T i).1 + 1))), some (.int (nI (i + 1))), none]) ⟨rfl, rfl, rfl, trivial⟩ ?_
        rw [Ts i h76] at ihi
        exact ihi
