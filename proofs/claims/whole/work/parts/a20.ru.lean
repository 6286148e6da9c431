/-! THE CLASS: rumours -/
def qW (qv : Nat → Int32) (qa : Nat → Nat → Int32) (hv : Nat → Int32) (ha : Nat → Nat → Int32) (se : Nat → Int32) (tv : Nat → Int32) (ta : Nat → Nat → Int32) (tb : Nat → Nat → Int64) (nv : Nat → Int32) (na : Nat → Nat → Int32) : px_W := [.inr (5, [.int (qv 0), .ref 1, .int (qv 2), .ref 2, .ref 3, .ref 4, .ref 5, .ref 10]), .inl (.int, 64, .inl (qa 1)), .inl (.int, 20, .inl (qa 3)), .inl (.int, 20, .inl (qa 4)), .inl (.int, 64, .inl (qa 5)), .inr (1, [.int (hv 0), .int (hv 1), .int (hv 2), .int (hv 3), .int (hv 4), .ref 6, .ref 7, .ref 8, .ref 9]), .inl (.int, 6, .inl (ha 5)), .inl (.int, 6, .inl (ha 6)), .inl (.int, 5, .inl (ha 7)), .inl (.int, 5, .inl (ha 8)), .inr (4, [.ref 12, .ref 11]), .inl (.int, 16, .inl se), .inr (7, [.int (tv 0), .int (tv 1), .int (tv 2), .int (tv 3), .int (tv 4), .int (tv 5), .int (tv 6), .ref 13, .ref 14, .ref 15, .ref 16, .ref 17, .ref 18, .ref 19, .ref 20, .ref 21, .ref 22, .ref 23]), .inl (.long, 6, .inr (.inl (tb 7))), .inl (.int, 6, .inl (ta 8)), .inl (.int, 6, .inl (ta 9)), .inl (.int, 6, .inl (ta 10)), .inl (.int, 6, .inl (ta 11)), .inl (.int, 6, .inl (ta 12)), .inl (.long, 5, .inr (.inl (tb 13))), .inl (.int, 5, .inl (ta 14)), .inl (.int, 5, .inl (ta 15)), .inl (.int, 5, .inl (ta 16)), .inr (0, [.ref 24, .ref 25, .ref 26, .int (tv 20)]), .inl (.int, 404, .inl (ta 20)), .inl (.int, 3, .inl (ta 21)), .inl (.int, 32, .inl (ta 22)), .inr (1, [.int (nv 0), .int (nv 1), .int (nv 2), .int (nv 3), .int (nv 4), .ref 28, .ref 29, .ref 30, .ref 31]), .inl (.int, 6, .inl (na 5)), .inl (.int, 6, .inl (na 6)), .inl (.int, 5, .inl (na 7)), .inl (.int, 5, .inl (na 8))]
set_option maxHeartbeats 1000000 in
theorem pt_qrh (qv : Nat → Int32) (qa : Nat → Nat → Int32) (hv : Nat → Int32) (ha : Nat → Nat → Int32) (se : Nat → Int32) (tv : Nat → Int32) (ta : Nat → Nat → Int32) (tb : Nat → Nat → Int64) (nv : Nat → Int32) (na : Nat → Nat → Int32) (se' : Nat → Int32) (tv' : Nat → Int32) (ta' : Nat → Nat → Int32) (tb' : Nat → Nat → Int64) (hv' : Nat → Int32) (ha' : Nat → Nat → Int32) : px_pt (px_f [10, 11, 12, 13, 14, 15, 16, 17, 18, 19, 20, 21, 22, 23, 24, 25, 26, 5, 6, 7, 8, 9]) [10, 11, 12, 13, 14, 15, 16, 17, 18, 19, 20, 21, 22, 23, 24, 25, 26, 5, 6, 7, 8, 9] (rW se' tv' ta' tb' hv' ha') (qW qv qa hv ha se tv ta tb nv na) = qW qv qa hv' ha' se' tv' ta' tb' nv na := by
  unfold qW rW
  simp only [px_pt, List.set_cons_succ, List.set_cons_zero]
  rfl
set_option maxHeartbeats 1000000 in
theorem pt_qc (qv : Nat → Int32) (qa : Nat → Nat → Int32) (hv : Nat → Int32) (ha : Nat → Nat → Int32) (se : Nat → Int32) (tv : Nat → Int32) (ta : Nat → Nat → Int32) (tb : Nat → Nat → Int64) (nv : Nat → Int32) (na : Nat → Nat → Int32) (hv' : Nat → Int32) (ha' : Nat → Nat → Int32) (nv' : Nat → Int32) (na' : Nat → Nat → Int32) : px_pt (px_f [5, 6, 7, 8, 9, 27, 28, 29, 30, 31]) [5, 6, 7, 8, 9, 27, 28, 29, 30, 31] (cW hv' ha' nv' na') (qW qv qa hv ha se tv ta tb nv na) = qW qv qa hv' ha' se tv ta tb nv' na' := by
  unfold qW cW
  simp only [px_pt, List.set_cons_succ, List.set_cons_zero]
  rfl
set_option maxHeartbeats 1000000 in
theorem pt_qt (qv : Nat → Int32) (qa : Nat → Nat → Int32) (hv : Nat → Int32) (ha : Nat → Nat → Int32) (se : Nat → Int32) (tv : Nat → Int32) (ta : Nat → Nat → Int32) (tb : Nat → Nat → Int64) (nv : Nat → Int32) (na : Nat → Nat → Int32) (tv' : Nat → Int32) (ta' : Nat → Nat → Int32) (tb' : Nat → Nat → Int64) : px_pt (px_f [12, 13, 14, 15, 16, 17, 18, 19, 20, 21, 22, 23, 24, 25, 26]) [12, 13, 14, 15, 16, 17, 18, 19, 20, 21, 22, 23, 24, 25, 26] (tW tv' ta' tb') (qW qv qa hv ha se tv ta tb nv na) = qW qv qa hv ha se tv' ta' tb' nv na := by
  unfold qW tW
  simp only [px_pt, List.set_cons_succ, List.set_cons_zero]
  rfl
def awX (S : SD) (R : Nat → Int32) (m : Nat) : Int32 := if R 28 < nI (S.1 35) then nI (2 ^ S.1 24 - 1) &&& (nI m ^^^ (-1)) else nI 0
/-- a night but for who sleeps -/
def GH (S : SD) (R : Nat → Int32) (hv : Nat → Int32) (ha : Nat → Nat → Int32) : Prop := CNt S R (va_up hv 4 (nI (aslN S R))) ha
theorem GH.of {S : SD} {R : Nat → Int32} {hv : Nat → Int32} {ha : Nat → Nat → Int32} (h : CNt S R hv ha) : GH S R hv ha := ⟨h.1, h.2.1, h.2.2.1, h.2.2.2.1, rfl, h.2.2.2.2.2⟩
theorem GH.put {S : SD} {R : Nat → Int32} {hv : Nat → Int32} {ha : Nat → Nat → Int32} (h : GH S R hv ha) (x : Int32) : GH S R (va_up hv 4 x) ha := ⟨h.1, h.2.1, h.2.2.1, h.2.2.2.1, rfl, h.2.2.2.2.2⟩
theorem GH.aw {S : SD} {R : Nat → Int32} {hv : Nat → Int32} {ha : Nat → Nat → Int32} (h : GH S R hv ha) (hsl : S.1 24 ≤ 6) {m : Nat} (hm : m < 64) : CNt S (saF R (S.1 24) (nI m ^^^ (-1))) (va_up hv 4 (awX S R m)) ha := by
  have := CNt.aw h hsl hm
  rw [va_upup] at this
  exact this
def swL (a : Nat → Nat → Int32) (lv sl cr k n : Nat) : List Nat := (List.range n).filter (fun s => mbF (aQ a) lv sl cr (a 54) k (nI s))
theorem swL_s (a : Nat → Nat → Int32) (lv sl cr k n : Nat) : swL a lv sl cr k (n + 1) = if mbF (aQ a) lv sl cr (a 54) k (nI n) = true then swL a lv sl cr k n ++ [n] else swL a lv sl cr k n := by
  unfold swL
  rw [List.range_succ, List.filter_append]
  by_cases h : mbF (aQ a) lv sl cr (a 54) k (nI n) = true
  · rw [if_pos h]; simp [h]
  · rw [if_neg h]; simp [h]
theorem swL_len (a : Nat → Nat → Int32) (lv sl cr k n : Nat) : (swL a lv sl cr k n).length ≤ n := by
  have h := List.length_filter_le (fun s => mbF (aQ a) lv sl cr (a 54) k (nI s)) (List.range n)
  rw [List.length_range] at h
  exact h
theorem swL_lt {a : Nat → Nat → Int32} {lv sl cr k n j : Nat} (h : j < (swL a lv sl cr k n).length) : (swL a lv sl cr k n).getD j 0 < n := by
  rw [List.getD_eq_getElem?_getD, List.getElem?_eq_getElem h, Option.getD_some]
  have h1 : (swL a lv sl cr k n)[j] ∈ swL a lv sl cr k n := List.getElem_mem h
  exact List.mem_range.mp (List.mem_filter.mp h1).1
set_option maxHeartbeats 1000000 in
theorem cc_add (d : Nat) (qv : Nat → Int32) (qa : Nat → Nat → Int32) (hv : Nat → Int32) (ha : Nat → Nat → Int32) (se : Nat → Int32) (tv : Nat → Int32) (ta : Nat → Nat → Int32) (tb : Nat → Nat → Int64) (nv : Nat → Int32) (na : Nat → Nat → Int32) (n : Nat) (hn : qv 0 = nI n) (hn2 : n ≤ 20) (p y : Int32) : Con mX5_add d [.ref 0, .int p, .int y] (qW qv qa hv ha se tv ta tb nv na) (fun r W' => (n = 20 ∧ W' = qW qv qa hv ha se tv ta tb nv na ∧ r = some (.int (-1))) ∨ (n < 20 ∧ W' = qW (va_up qv 0 (nI (n + 1))) (va_up (va_up qa 3 (upd (qa 3) n p)) 4 (upd (qa 4) n y)) hv ha se tv ta tb nv na ∧ r = some (.int (nI n)))) := by
  refine Con.of (by decide) (Nat.le_of_ble_eq_true rfl) ?_
  have q1 : (qv 0) = (nI n) := hn
  refine XG.blk tX5_add_ok 0 3 (pc' := 6) (pl' := [some (.ref 0), some (.int p), some (.int y)]) (st' := [(.int (nI 20)), (.int (qv 0))]) (W1 := (qW qv qa hv ha se tv ta tb nv na)) (bs := []) rfl rfl rfl ?_
  simp only [q1]
  refine XG.br eX5_add_6 (P := (nI n) < (nI 20)) (r := []) rfl (tgt := 11) (by decide) (fun h6 => ?_) (fun h6 => ?_)
  · skip
    have g6 : n < 20 := (nI_ltI (a := n) (b := 20) (by omega) (by omega)).mp h6
    have q2 : (qv 0) = (nI n) := hn
    have q3 : (nI n).toNatClampNeg = n := nI_clamp (by omega)
    have q4 : ((nI n) + (nI 1)) = (nI (n + 1)) := px_eadd rfl rfl
    have q5 : ((nI (n + 1)) - (nI 1)) = (nI ((n + 1) - 1)) := px_esub rfl rfl (by omega)
    refine XG.blk tX5_add_ok 6 22 (pc' := 47) (pl' := [some (.ref 0), some (.int p), some (.int y)]) (st' := [(.int (((qv 0) + (nI 1)) - (nI 1)))]) (W1 := (qW (va_up qv 0 ((qv 0) + (nI 1))) (va_up (va_up qa 3 (upd (qa 3) (qv 0).toNatClampNeg p)) 4 (upd (qa 4) (qv 0).toNatClampNeg y)) hv ha se tv ta tb nv na)) (bs := [px_vb (qv 0) 20, px_vb (qv 0) 20]) rfl rfl (by (try simp only [q2, q3, q4, q5]); exact (px_all (px_vbN (by omega) (by decide)) (px_all (px_vbN (by omega) (by decide)) rfl))) ?_
    simp only [q2, q3, q4, q5]
    refine XS.iret eX5_add_47 rfl rfl ?_
    exact Or.inr ⟨by omega, rfl, rfl⟩
  · skip
    have g6 : ¬ n < 20 := (fun z => h6 ((nI_ltI (a := n) (b := 20) (by omega) (by omega)).mpr z))
    refine XG.blk tX5_add_ok 4 1 (pc' := 10) (pl' := [some (.ref 0), some (.int p), some (.int y)]) (st' := [(.int (-1))]) (W1 := (qW qv qa hv ha se tv ta tb nv na)) (bs := []) rfl rfl rfl ?_
    refine XS.iret eX5_add_10 rfl rfl ?_
    exact Or.inl ⟨by omega, rfl, rfl⟩
set_option maxHeartbeats 1000000 in
theorem cc_isSo (d : Nat) (qv : Nat → Int32) (qa : Nat → Nat → Int32) (hv : Nat → Int32) (ha : Nat → Nat → Int32) (se : Nat → Int32) (tv : Nat → Int32) (ta : Nat → Nat → Int32) (tb : Nat → Nat → Int64) (nv : Nat → Int32) (na : Nat → Nat → Int32) (S : SD) (lv : Nat) (v : Nat → Int32) (a : Nat → Nat → Int32) (hX : CX S lv (aQ a) tv ta) (hN : CNt S (a 54) nv na) (k m : Nat) (hk : k ≤ 20) (hG : CNt S (saF (a 54) (S.1 24) (nI m ^^^ (-1))) hv ha) (hTo : ∀ i, i < k → qa 3 i = a 70 i ∧ qa 4 i = a 71 i) (hd : 4 ≤ d) : Con mX5_isSo d [.ref 0, .int (nI k)] (qW qv qa hv ha se tv ta tb nv na) (fun r W' => ∃ se' sk', W' = qW qv qa hv ha se' tv (va_up ta 22 sk') tb nv na ∧ r = some (.int (if (mbF (aQ a) lv (S.1 24) (S.1 31) (a 54) k (nI m)) = true then 1 else 0))) := by
  obtain ⟨hcr, hcr2⟩ := hX.cr
  obtain ⟨hsl, hsl2⟩ := hX.sl
  obtain ⟨hsp, hsp1, hsp2⟩ := hX.sp
  obtain ⟨hdw, hdw2, hdw3⟩ := hX.dw
  refine Con.of (by decide) (Nat.le_of_ble_eq_true rfl) ?_
  refine XG.blk tX5_isSo_ok 0 2 (pc' := 2) (pl' := [some (.ref 0), some (.int (nI k)), some (.int (nI 0))]) (st' := []) (W1 := (qW qv qa hv ha se tv ta tb nv na)) (bs := []) rfl rfl rfl ?_
  refine px_for k (fun i => ∀ (se9 sk9 : Nat → Int32) (hF : findN (mbP (aQ a) lv (S.1 24) (S.1 31) (a 54) (nI m)) (k - i) i = findN (mbP (aQ a) lv (S.1 24) (S.1 31) (a 54) (nI m)) k 0), XG mX5_isSo _ 0 0 2 [some (.ref 0), some (.int (nI k)), some (.int (nI i))] [] (qW qv qa hv ha se9 tv (va_up ta 22 sk9) tb nv na)) ?_ ?_ 0 (Nat.zero_le _) se (ta 22) rfl
  · intro se9 sk9 hF
    refine XG.blk tX5_isSo_ok 2 2 (pc' := 4) (pl' := [some (.ref 0), some (.int (nI k)), some (.int (nI k))]) (st' := [(.int (nI k)), (.int (nI k))]) (W1 := (qW qv qa hv ha se9 tv (va_up ta 22 sk9) tb nv na)) (bs := []) rfl rfl rfl ?_
    refine XG.br eX5_isSo_4 (P := (nI k) ≤ (nI k)) (r := []) rfl (tgt := 47) (by decide) (fun h4 => ?_) (fun h4 => ?_)
    · skip
      have g4 : k ≤ k := (nI_leI (a := k) (b := k) (by omega) (by omega)).mp h4
      refine XG.blk tX5_isSo_ok 26 1 (pc' := 48) (pl' := [some (.ref 0), some (.int (nI k)), some (.int (nI k))]) (st' := [(.int (nI 1))]) (W1 := (qW qv qa hv ha se9 tv (va_up ta 22 sk9) tb nv na)) (bs := []) rfl rfl rfl ?_
      refine XS.iret eX5_isSo_48 rfl (by decide) ?_
      refine ⟨_, _, rfl, ?_⟩
      unfold mbF
      rw [← hF, Nat.sub_self]; rfl
    · exfalso
      have g4 : ¬ k ≤ k := (fun z => h4 ((nI_leI (a := k) (b := k) (by omega) (by omega)).mpr z))
      omega
  · intro i hi ihi se9 sk9 hF
    refine XG.blk tX5_isSo_ok 2 2 (pc' := 4) (pl' := [some (.ref 0), some (.int (nI k)), some (.int (nI i))]) (st' := [(.int (nI k)), (.int (nI i))]) (W1 := (qW qv qa hv ha se9 tv (va_up ta 22 sk9) tb nv na)) (bs := []) rfl rfl rfl ?_
    refine XG.br eX5_isSo_4 (P := (nI k) ≤ (nI i)) (r := []) rfl (tgt := 47) (by decide) (fun h4 => ?_) (fun h4 => ?_)
    · exfalso
      have g4 : k ≤ i := (nI_leI (a := k) (b := i) (by omega) (by omega)).mp h4
      omega
    · skip
      have g4 : ¬ k ≤ i := (fun z => h4 ((nI_leI (a := k) (b := i) (by omega) (by omega)).mpr z))
      refine XG.blk tX5_isSo_ok 5 2 (pc' := 10) (pl' := [some (.ref 0), some (.int (nI k)), some (.int (nI i))]) (st' := [(.int (nI 20)), (.int (nI i))]) (W1 := (qW qv qa hv ha se9 tv (va_up ta 22 sk9) tb nv na)) (bs := []) rfl rfl rfl ?_
      refine XG.br eX5_isSo_10 (P := (nI 20) ≤ (nI i)) (r := []) rfl (tgt := 47) (by decide) (fun h10 => ?_) (fun h10 => ?_)
      · exfalso
        have g10 : 20 ≤ i := (nI_leI (a := 20) (b := i) (by omega) (by omega)).mp h10
        omega
      · skip
        have g10 : ¬ 20 ≤ i := (fun z => h10 ((nI_leI (a := 20) (b := i) (by omega) (by omega)).mpr z))
        have q1 : (nI i).toNatClampNeg = i := nI_clamp (by omega)
        have q2 : ((qa 3) i) = (a 70 i) := (hTo i (by omega)).1
        refine XG.blk tX5_isSo_ok 8 8 (pc' := 27) (pl' := [some (.ref 0), some (.int (nI k)), some (.int (nI i))]) (st' := [(.int ((qa 3) (nI i).toNatClampNeg)), (.ref 5), (.ref 10)]) (W1 := (qW qv qa hv ha se9 tv (va_up ta 22 sk9) tb nv na)) (bs := [px_vb (nI i) 20]) rfl rfl (by (try simp only [q1, q2]); exact (px_all (px_vbN (by omega) (by decide)) rfl)) ?_
        simp only [q1, q2]
        refine XG.callV (ro := [10, 11, 12, 13, 14, 15, 16, 17, 18, 19, 20, 21, 22, 23, 24, 25, 26, 5, 6, 7, 8, 9]) (W1 := (rW se9 tv (va_up ta 22 sk9) tb hv ha)) eX5_isSo_27 kl_X5_71 (cc_borne (d - 1) se9 tv (va_up ta 22 sk9) tb hv ha S lv (aQ a) hX (saF (a 54) (S.1 24) (nI m ^^^ (-1))) hG (a 70 i) (by omega)) (px_fitS (by omega)) rfl ⟨rfl, by decide, by decide⟩ rfl rfl (Nat.le_of_ble_eq_true rfl) (fun r9 W9 hp9 hl9 => ?_)
        obtain ⟨se1, sk1, rfl, rfl⟩ := hp9
        rw [pt_qrh]
        show XG _ _ _ _ _ _ [(.int (bR (aQ a) lv (S.1 24) (S.1 31) (saF (a 54) (S.1 24) (nI m ^^^ (-1))) (a 70 i)))] (qW qv qa hv ha se1 tv (va_up ta 22 sk1) tb nv na)
        have q3 : (nI i).toNatClampNeg = i := nI_clamp (by omega)
        have q4 : ((qa 4) i) = (a 71 i) := (hTo i (by omega)).2
        refine XG.blk tX5_isSo_ok 17 4 (pc' := 36) (pl' := [some (.ref 0), some (.int (nI k)), some (.int (nI i))]) (st' := [(.int ((qa 4) (nI i).toNatClampNeg)), (.int (bR (aQ a) lv (S.1 24) (S.1 31) (saF (a 54) (S.1 24) (nI m ^^^ (-1))) (a 70 i)))]) (W1 := (qW qv qa hv ha se1 tv (va_up ta 22 sk1) tb nv na)) (bs := [px_vb (nI i) 20]) rfl rfl (by (try simp only [q3, q4]); exact (px_all (px_vbN (by omega) (by decide)) rfl)) ?_
        simp only [q3, q4]
        refine XG.br eX5_isSo_36 (P := (bR (aQ a) lv (S.1 24) (S.1 31) (saF (a 54) (S.1 24) (nI m ^^^ (-1))) (a 70 i)) = (a 71 i)) (r := []) rfl (tgt := 41) (by decide) (fun h36 => ?_) (fun h36 => ?_)
        · skip
          have q5 : ((nI i) + (nI 1)) = (nI (i + 1)) := px_eadd rfl rfl
          refine XG.blk tX5_isSo_ok 24 1 (pc' := 44) (pl' := [some (.ref 0), some (.int (nI k)), some (.int ((nI i) + (nI 1)))]) (st' := []) (W1 := (qW qv qa hv ha se1 tv (va_up ta 22 sk1) tb nv na)) (bs := []) rfl rfl rfl ?_
          simp only [q5]
          refine XG.goto eX5_isSo_44 (tgt := 2) (by decide) ?_
          refine ihi _ _ ?_
          rw [← hF, show k - i = k - (i + 1) + 1 by omega]
          show _ = (if (mbP (aQ a) lv (S.1 24) (S.1 31) (a 54) (nI m)) i = true then _ else _)
          rw [if_neg (show ¬ (mbP (aQ a) lv (S.1 24) (S.1 31) (a 54) (nI m)) i = true from fun z => of_decide_eq_true z h36)]
        · skip
          refine XG.blk tX5_isSo_ok 22 1 (pc' := 40) (pl' := [some (.ref 0), some (.int (nI k)), some (.int (nI i))]) (st' := [(.int (nI 0))]) (W1 := (qW qv qa hv ha se1 tv (va_up ta 22 sk1) tb nv na)) (bs := []) rfl rfl rfl ?_
          refine XS.iret eX5_isSo_40 rfl (by decide) ?_
          refine ⟨_, _, rfl, ?_⟩
          unfold mbF
          rw [← hF, show k - i = (k - i - 1) + 1 by omega, show findN (mbP (aQ a) lv (S.1 24) (S.1 31) (a 54) (nI m)) ((k - i - 1) + 1) i = some i from if_pos (decide_eq_true h36)]; rfl
set_option maxHeartbeats 1000000 in
theorem cc_findSets (d : Nat) (qv : Nat → Int32) (qa : Nat → Nat → Int32) (hv : Nat → Int32) (ha : Nat → Nat → Int32) (se : Nat → Int32) (tv : Nat → Int32) (ta : Nat → Nat → Int32) (tb : Nat → Nat → Int64) (nv : Nat → Int32) (na : Nat → Nat → Int32) (S : SD) (lv : Nat) (v : Nat → Int32) (a : Nat → Nat → Int32) (hX : CX S lv (aQ a) tv ta) (hN : CNt S (a 54) nv na) (k : Nat) (hk : k ≤ 20) (hTo : ∀ i, i < k → qa 3 i = a 70 i ∧ qa 4 i = a 71 i) (hd : 5 ≤ d) : Con mX5_findSets d [.ref 0, .ref 27, .int (nI k)] (qW qv qa hv ha se tv ta tb nv na) (fun r W' => ∃ qv' qa' hv' ha' se' sk', W' = qW qv' qa' hv' ha' se' tv (va_up ta 22 sk') tb nv na ∧ (qv' 0 = qv 0 ∧ qv' 2 = nI (swL a lv (S.1 24) (S.1 31) k (2 ^ S.1 24)).length ∧ atL (swL a lv (S.1 24) (S.1 31) k (2 ^ S.1 24)) (qa' 1) ∧ qa' 3 = qa 3 ∧ qa' 4 = qa 4) ∧ GH S (a 54) hv' ha' ∧ r = some (.int (nI (swL a lv (S.1 24) (S.1 31) k (2 ^ S.1 24)).length))) := by
  obtain ⟨hcr, hcr2⟩ := hX.cr
  obtain ⟨hsl, hsl2⟩ := hX.sl
  obtain ⟨hsp, hsp1, hsp2⟩ := hX.sp
  obtain ⟨hdw, hdw2, hdw3⟩ := hX.dw
  have hpw := pow6 hsl2
  have hpp : 0 < 2 ^ S.1 24 := Nat.pow_pos (by decide)
  refine Con.of (by decide) (Nat.le_of_ble_eq_true rfl) ?_
  refine XG.blk tX5_findSets_ok 0 3 (pc' := 5) (pl' := [some (.ref 0), some (.ref 27), some (.int (nI k)), none, none]) (st' := [(.ref 27), (.ref 5)]) (W1 := (qW qv qa hv ha se tv ta tb nv na)) (bs := []) rfl rfl rfl ?_
  refine XG.callV (ro := [5, 6, 7, 8, 9, 27, 28, 29, 30, 31]) (W1 := (cW hv ha nv na)) eX5_findSets_5 kl_X5_39 (cc_copy (d - 1) hv ha nv na (by omega)) (px_fitS (by omega)) rfl ⟨rfl, by decide, by decide⟩ rfl rfl (Nat.le_of_ble_eq_true rfl) (fun r9 W9 hp9 hl9 => ?_)
  obtain ⟨hv1, ha1, rfl, hE1, rfl⟩ := hp9
  have hN1 : CNt S (a 54) hv1 ha1 := hN.eq hsl2 hE1
  rw [pt_qc]
  show XG _ _ _ _ _ _ [] (qW qv qa hv1 ha1 se tv ta tb nv na)
  have q1 : (tv 1) = (nI (S.1 24)) := hsl
  have q2 : ((nI 1) <<< ((nI (S.1 24)) &&& 31)) = (nI (2 ^ S.1 24)) := sh_pow hsl2
  have q3 : ((nI (2 ^ S.1 24)) - (nI 1)) = (nI ((2 ^ S.1 24) - 1)) := px_esub rfl rfl (by omega)
  refine XG.blk tX5_findSets_ok 4 14 (pc' := 31) (pl' := [some (.ref 0), some (.ref 27), some (.int (nI k)), some (.int (((nI 1) <<< ((tv 1) &&& 31)) - (nI 1))), some (.int (nI 0))]) (st' := []) (W1 := (qW (va_up qv 2 (nI 0)) qa hv1 ha1 se tv ta tb nv na)) (bs := []) rfl rfl rfl ?_
  simp only [q1, q2, q3]
  refine px_for (2 ^ S.1 24) (fun i => ∀ (qv9 : Nat → Int32) (qa9 : Nat → Nat → Int32) (hv9 : Nat → Int32) (se9 sk9 : Nat → Int32) (_ : qv9 0 = qv 0 ∧ qv9 2 = nI (swL a lv (S.1 24) (S.1 31) k i).length ∧ atL (swL a lv (S.1 24) (S.1 31) k i) (qa9 1) ∧ qa9 3 = qa 3 ∧ qa9 4 = qa 4) (_ : GH S (a 54) hv9 ha1), XG mX5_findSets _ 0 0 31 [some (.ref 0), some (.ref 27), some (.int (nI k)), some (.int (nI (2 ^ S.1 24 - 1))), some (.int (nI i))] [] (qW qv9 qa9 hv9 ha1 se9 tv (va_up ta 22 sk9) tb nv na)) ?_ ?_ 0 (Nat.zero_le _) (va_up qv 2 (nI 0)) qa hv1 se (ta 22) ⟨rfl, rfl, (fun j hj => absurd hj (Nat.not_lt_zero _)), rfl, rfl⟩ (GH.of hN1)
  · intro qv9 qa9 hv9 se9 sk9 hS9 hG9
    refine XG.blk tX5_findSets_ok 18 2 (pc' := 34) (pl' := [some (.ref 0), some (.ref 27), some (.int (nI k)), some (.int (nI (2 ^ S.1 24 - 1))), some (.int (nI (2 ^ S.1 24)))]) (st' := [(.int (nI (2 ^ S.1 24 - 1))), (.int (nI (2 ^ S.1 24)))]) (W1 := (qW qv9 qa9 hv9 ha1 se9 tv (va_up ta 22 sk9) tb nv na)) (bs := []) rfl rfl rfl ?_
    refine XG.br eX5_findSets_34 (P := (nI (2 ^ S.1 24 - 1)) < (nI (2 ^ S.1 24))) (r := []) rfl (tgt := 107) (by decide) (fun h34 => ?_) (fun h34 => ?_)
    · skip
      have g34 : (2 ^ S.1 24 - 1) < (2 ^ S.1 24) := (nI_ltI (a := (2 ^ S.1 24 - 1)) (b := (2 ^ S.1 24)) (by omega) (by omega)).mp h34
      have q4 : (qv9 2) = (nI (swL a lv (S.1 24) (S.1 31) k (2 ^ S.1 24)).length) := hS9.2.1
      refine XG.blk tX5_findSets_ok 54 2 (pc' := 111) (pl' := [some (.ref 0), some (.ref 27), some (.int (nI k)), some (.int (nI (2 ^ S.1 24 - 1))), some (.int (nI (2 ^ S.1 24)))]) (st' := [(.int (qv9 2))]) (W1 := (qW qv9 qa9 hv9 ha1 se9 tv (va_up ta 22 sk9) tb nv na)) (bs := []) rfl rfl rfl ?_
      simp only [q4]
      refine XS.iret eX5_findSets_111 rfl rfl ?_
      exact ⟨_, _, _, _, _, _, rfl, hS9, hG9, rfl⟩
    · exfalso
      have g34 : ¬ (2 ^ S.1 24 - 1) < (2 ^ S.1 24) := (fun z => h34 ((nI_ltI (a := (2 ^ S.1 24 - 1)) (b := (2 ^ S.1 24)) (by omega) (by omega)).mpr z))
      omega
  · intro i hi ihi qv9 qa9 hv9 se9 sk9 hS9 hG9
    have hll := swL_len a lv (S.1 24) (S.1 31) k i
    refine XG.blk tX5_findSets_ok 18 2 (pc' := 34) (pl' := [some (.ref 0), some (.ref 27), some (.int (nI k)), some (.int (nI (2 ^ S.1 24 - 1))), some (.int (nI i))]) (st' := [(.int (nI (2 ^ S.1 24 - 1))), (.int (nI i))]) (W1 := (qW qv9 qa9 hv9 ha1 se9 tv (va_up ta 22 sk9) tb nv na)) (bs := []) rfl rfl rfl ?_
    refine XG.br eX5_findSets_34 (P := (nI (2 ^ S.1 24 - 1)) < (nI i)) (r := []) rfl (tgt := 107) (by decide) (fun h34 => ?_) (fun h34 => ?_)
    · exfalso
      have g34 : (2 ^ S.1 24 - 1) < i := (nI_ltI (a := (2 ^ S.1 24 - 1)) (b := i) (by omega) (by omega)).mp h34
      omega
    · skip
      have g34 : ¬ (2 ^ S.1 24 - 1) < i := (fun z => h34 ((nI_ltI (a := (2 ^ S.1 24 - 1)) (b := i) (by omega) (by omega)).mpr z))
      have q5 : (qv9 2) = (nI (swL a lv (S.1 24) (S.1 31) k i).length) := hS9.2.1
      refine XG.blk tX5_findSets_ok 21 3 (pc' := 43) (pl' := [some (.ref 0), some (.ref 27), some (.int (nI k)), some (.int (nI (2 ^ S.1 24 - 1))), some (.int (nI i))]) (st' := [(.int (nI 64)), (.int (qv9 2))]) (W1 := (qW qv9 qa9 hv9 ha1 se9 tv (va_up ta 22 sk9) tb nv na)) (bs := []) rfl rfl rfl ?_
      simp only [q5]
      refine XG.br eX5_findSets_43 (P := (nI 64) ≤ (nI (swL a lv (S.1 24) (S.1 31) k i).length)) (r := []) rfl (tgt := 107) (by decide) (fun h43 => ?_) (fun h43 => ?_)
      · exfalso
        have g43 : 64 ≤ (swL a lv (S.1 24) (S.1 31) k i).length := (nI_leI (a := 64) (b := (swL a lv (S.1 24) (S.1 31) k i).length) (by omega) (by omega)).mp h43
        omega
      · skip
        have g43 : ¬ 64 ≤ (swL a lv (S.1 24) (S.1 31) k i).length := (fun z => h43 ((nI_leI (a := 64) (b := (swL a lv (S.1 24) (S.1 31) k i).length) (by omega) (by omega)).mpr z))
        have q6 : (hv9 0) = (a 54 28) := hG9.1
        refine XG.blk tX5_findSets_ok 25 9 (pc' := 66) (pl' := [some (.ref 0), some (.ref 27), some (.int (nI k)), some (.int (nI (2 ^ S.1 24 - 1))), some (.int (nI i))]) (st' := [(.int (nI i)), (.int (hv9 0)), (.ref 12), (.ref 5)]) (W1 := (qW qv9 qa9 hv9 ha1 se9 tv (va_up ta 22 sk9) tb nv na)) (bs := []) rfl rfl rfl ?_
        simp only [q6]
        refine XG.callV (ro := [12, 13, 14, 15, 16, 17, 18, 19, 20, 21, 22, 23, 24, 25, 26]) (W1 := (tW tv (va_up ta 22 sk9) tb)) eX5_findSets_66 kl_X5_60 (cc_asleepAt (d - 1) tv (va_up ta 22 sk9) tb S hsl hsl2 (a 54 28) (nI i)) (px_fitS (by omega)) rfl ⟨rfl, by decide, by decide⟩ rfl rfl (Nat.le_of_ble_eq_true rfl) (fun r9 W9 hp9 hl9 => ?_)
        obtain ⟨rfl, rfl⟩ := hp9
        rw [hdw]
        rw [pt_qt]
        show XG _ _ _ _ _ _ [(.int (awX S (a 54) i)), (.ref 5)] (qW qv9 qa9 hv9 ha1 se9 tv (va_up ta 22 sk9) tb nv na)
        refine XG.blk tX5_findSets_ok 35 1 (pc' := 72) (pl' := [some (.ref 0), some (.ref 27), some (.int (nI k)), some (.int (nI (2 ^ S.1 24 - 1))), some (.int (nI i))]) (st' := []) (W1 := (qW qv9 qa9 (va_up hv9 4 (awX S (a 54) i)) ha1 se9 tv (va_up ta 22 sk9) tb nv na)) (bs := []) rfl rfl rfl ?_
        have hG7 := hG9.aw hsl2 (m := i) (by omega)
        have hTo9 : ∀ j, j < k → qa9 3 j = a 70 j ∧ qa9 4 j = a 71 j := fun j hj => by rw [hS9.2.2.2.1, hS9.2.2.2.2]; exact hTo j hj
        refine XG.blk tX5_findSets_ok 36 2 (pc' := 74) (pl' := [some (.ref 0), some (.ref 27), some (.int (nI k)), some (.int (nI (2 ^ S.1 24 - 1))), some (.int (nI i))]) (st' := [(.int (nI k)), (.ref 0)]) (W1 := (qW qv9 qa9 (va_up hv9 4 (awX S (a 54) i)) ha1 se9 tv (va_up ta 22 sk9) tb nv na)) (bs := []) rfl rfl rfl ?_
        refine XG.callV0 eX5_findSets_74 kl_X5_67 (cc_isSo (d - 1) qv9 qa9 (va_up hv9 4 (awX S (a 54) i)) ha1 se9 tv (va_up ta 22 sk9) tb nv na S lv v a hX hN k i hk hG7 hTo9 (by omega)) (px_fitS (by omega)) rfl rfl rfl (Nat.le_of_ble_eq_true rfl) (fun r9 W9 hp9 hl9 => ?_)
        obtain ⟨se2, sk2, rfl, rfl⟩ := hp9
        show XG _ _ _ _ _ _ [(.int (if (mbF (aQ a) lv (S.1 24) (S.1 31) (a 54) k (nI i)) = true then 1 else 0))] (qW qv9 qa9 (va_up hv9 4 (awX S (a 54) i)) ha1 se2 tv (va_up ta 22 sk2) tb nv na)
        refine XG.br eX5_findSets_77 (P := (if (mbF (aQ a) lv (S.1 24) (S.1 31) (a 54) k (nI i)) = true then 1 else 0) = 0) (r := []) rfl (tgt := 101) (by decide) (fun h77 => ?_) (fun h77 => ?_)
        · skip
          have q7 : ((nI i) + (nI 1)) = (nI (i + 1)) := px_eadd rfl rfl
          refine XG.blk tX5_findSets_ok 52 1 (pc' := 104) (pl' := [some (.ref 0), some (.ref 27), some (.int (nI k)), some (.int (nI (2 ^ S.1 24 - 1))), some (.int ((nI i) + (nI 1)))]) (st' := []) (W1 := (qW qv9 qa9 (va_up hv9 4 (awX S (a 54) i)) ha1 se2 tv (va_up ta 22 sk2) tb nv na)) (bs := []) rfl rfl rfl ?_
          simp only [q7]
          refine XG.goto eX5_findSets_104 (tgt := 31) (by decide) ?_
          refine ihi _ _ _ _ _ ?_ (hG9.put _)
          rw [show (swL a lv (S.1 24) (S.1 31) k (i + 1)) = (swL a lv (S.1 24) (S.1 31) k i) by rw [swL_s, if_neg (one_ne.mp h77)]]
          exact hS9
        · skip
          have q8 : (qv9 2) = (nI (swL a lv (S.1 24) (S.1 31) k i).length) := hS9.2.1
          have q9 : (nI (swL a lv (S.1 24) (S.1 31) k i).length).toNatClampNeg = (swL a lv (S.1 24) (S.1 31) k i).length := nI_clamp (by omega)
          have q10 : ((nI (swL a lv (S.1 24) (S.1 31) k i).length) + (nI 1)) = (nI ((swL a lv (S.1 24) (S.1 31) k i).length + 1)) := px_eadd rfl rfl
          have q11 : ((nI i) + (nI 1)) = (nI (i + 1)) := px_eadd rfl rfl
          refine XG.blk tX5_findSets_ok 40 13 (pc' := 104) (pl' := [some (.ref 0), some (.ref 27), some (.int (nI k)), some (.int (nI (2 ^ S.1 24 - 1))), some (.int ((nI i) + (nI 1)))]) (st' := []) (W1 := (qW (va_up qv9 2 ((qv9 2) + (nI 1))) (va_up qa9 1 (upd (qa9 1) (qv9 2).toNatClampNeg (nI i))) (va_up hv9 4 (awX S (a 54) i)) ha1 se2 tv (va_up ta 22 sk2) tb nv na)) (bs := [px_vb (qv9 2) 64]) rfl rfl (by (try simp only [q8, q9, q10, q11]); exact (px_all (px_vbN (by omega) (by decide)) rfl)) ?_
          simp only [q8, q9, q10, q11]
          refine XG.goto eX5_findSets_104 (tgt := 31) (by decide) ?_
          have h77 := Decidable.not_not.mp (fun z => h77 (one_ne.mpr z))
          refine ihi _ _ _ _ _ ?_ (hG9.put _)
          rw [show (swL a lv (S.1 24) (S.1 31) k (i + 1)) = (swL a lv (S.1 24) (S.1 31) k i) ++ [i] by rw [swL_s, if_pos h77]]
          exact ⟨hS9.1, by rw [List.length_append]; rfl, atL_s hS9.2.2.1 i, hS9.2.2.2.1, hS9.2.2.2.2⟩
def alk (f : Nat → Int32) (i : Nat) : Nat → Int32 := itN (fun j n => if f j = f i then n + nI 1 else n) (nI 0)
def mlF (f : Nat → Int32) : Nat → Int32 := itN (fun i m => mxF m (alk f i (i + 1))) (nI 0)
set_option maxHeartbeats 1000000 in
theorem cc_mostLeft (d : Nat) (qv : Nat → Int32) (qa : Nat → Nat → Int32) (hv : Nat → Int32) (ha : Nat → Nat → Int32) (se : Nat → Int32) (tv : Nat → Int32) (ta : Nat → Nat → Int32) (tb : Nat → Nat → Int64) (nv : Nat → Int32) (na : Nat → Nat → Int32) (S : SD) (lv : Nat) (v : Nat → Int32) (a : Nat → Nat → Int32) (hX : CX S lv (aQ a) tv ta) (hN : CNt S (a 54) nv na) (k p : Nat) (hS2 : qv 2 = nI (swL a lv (S.1 24) (S.1 31) k (2 ^ S.1 24)).length) (hS1 : atL (swL a lv (S.1 24) (S.1 31) k (2 ^ S.1 24)) (qa 1)) (hG : GH S (a 54) hv ha) (hd : 4 ≤ d) : Con mX5_mostLeft d [.ref 0, .int (nI p)] (qW qv qa hv ha se tv ta tb nv na) (fun r W' => ∃ qa' hv' se' sk', W' = qW qv qa' hv' ha se' tv (va_up ta 22 sk') tb nv na ∧ (qa' 1 = qa 1 ∧ qa' 3 = qa 3 ∧ qa' 4 = qa 4) ∧ GH S (a 54) hv' ha ∧ r = some (.int (mlF (fun j => akB a lv (S.1 24) (S.1 31) ((swL a lv (S.1 24) (S.1 31) k (2 ^ S.1 24)).getD j 0) p) (swL a lv (S.1 24) (S.1 31) k (2 ^ S.1 24)).length))) := by
  obtain ⟨hcr, hcr2⟩ := hX.cr
  obtain ⟨hsl, hsl2⟩ := hX.sl
  obtain ⟨hsp, hsp1, hsp2⟩ := hX.sp
  obtain ⟨hdw, hdw2, hdw3⟩ := hX.dw
  have hpw := pow6 hsl2
  have hlen := swL_len a lv (S.1 24) (S.1 31) k (2 ^ S.1 24)
  refine Con.of (by decide) (Nat.le_of_ble_eq_true rfl) ?_
  refine XG.blk tX5_mostLeft_ok 0 4 (pc' := 4) (pl' := [some (.ref 0), some (.int (nI p)), some (.int (nI 0)), some (.int (nI 0)), none, none]) (st' := []) (W1 := (qW qv qa hv ha se tv ta tb nv na)) (bs := []) rfl rfl rfl ?_
  refine px_for (swL a lv (S.1 24) (S.1 31) k (2 ^ S.1 24)).length (fun i => ∀ (qa9 : Nat → Nat → Int32) (hv9 : Nat → Int32) (se9 sk9 : Nat → Int32) (_ : qa9 1 = qa 1 ∧ qa9 3 = qa 3 ∧ qa9 4 = qa 4) (_ : ∀ j, j < i → qa9 5 j = (fun j => akB a lv (S.1 24) (S.1 31) ((swL a lv (S.1 24) (S.1 31) k (2 ^ S.1 24)).getD j 0) p) j) (_ : GH S (a 54) hv9 ha), XG mX5_mostLeft _ 0 0 4 [some (.ref 0), some (.int (nI p)), some (.int (mlF (fun j => akB a lv (S.1 24) (S.1 31) ((swL a lv (S.1 24) (S.1 31) k (2 ^ S.1 24)).getD j 0) p) i)), some (.int (nI i)), none, none] [] (qW qv qa9 hv9 ha se9 tv (va_up ta 22 sk9) tb nv na)) ?_ ?_ 0 (Nat.zero_le _) _ _ se (ta 22) ⟨rfl, rfl, rfl⟩ (fun j hj => absurd hj (Nat.not_lt_zero _)) hG
  · intro qa9 hv9 se9 sk9 hS9 hA9 hG9
    have q1 : (qv 2) = (nI (swL a lv (S.1 24) (S.1 31) k (2 ^ S.1 24)).length) := hS2
    refine XG.blk tX5_mostLeft_ok 4 3 (pc' := 9) (pl' := [some (.ref 0), some (.int (nI p)), some (.int (mlF (fun j => akB a lv (S.1 24) (S.1 31) ((swL a lv (S.1 24) (S.1 31) k (2 ^ S.1 24)).getD j 0) p) (swL a lv (S.1 24) (S.1 31) k (2 ^ S.1 24)).length)), some (.int (nI (swL a lv (S.1 24) (S.1 31) k (2 ^ S.1 24)).length)), none, none]) (st' := [(.int (qv 2)), (.int (nI (swL a lv (S.1 24) (S.1 31) k (2 ^ S.1 24)).length))]) (W1 := (qW qv qa9 hv9 ha se9 tv (va_up ta 22 sk9) tb nv na)) (bs := []) rfl rfl rfl ?_
    simp only [q1]
    refine XG.br eX5_mostLeft_9 (P := (nI (swL a lv (S.1 24) (S.1 31) k (2 ^ S.1 24)).length) ≤ (nI (swL a lv (S.1 24) (S.1 31) k (2 ^ S.1 24)).length)) (r := []) rfl (tgt := 117) (by decide) (fun h9 => ?_) (fun h9 => ?_)
    · skip
      have g9 : (swL a lv (S.1 24) (S.1 31) k (2 ^ S.1 24)).length ≤ (swL a lv (S.1 24) (S.1 31) k (2 ^ S.1 24)).length := (nI_leI (a := (swL a lv (S.1 24) (S.1 31) k (2 ^ S.1 24)).length) (b := (swL a lv (S.1 24) (S.1 31) k (2 ^ S.1 24)).length) (by omega) (by omega)).mp h9
      refine XG.blk tX5_mostLeft_ok 62 1 (pc' := 118) (pl' := [some (.ref 0), some (.int (nI p)), some (.int (mlF (fun j => akB a lv (S.1 24) (S.1 31) ((swL a lv (S.1 24) (S.1 31) k (2 ^ S.1 24)).getD j 0) p) (swL a lv (S.1 24) (S.1 31) k (2 ^ S.1 24)).length)), some (.int (nI (swL a lv (S.1 24) (S.1 31) k (2 ^ S.1 24)).length)), none, none]) (st' := [(.int (mlF (fun j => akB a lv (S.1 24) (S.1 31) ((swL a lv (S.1 24) (S.1 31) k (2 ^ S.1 24)).getD j 0) p) (swL a lv (S.1 24) (S.1 31) k (2 ^ S.1 24)).length))]) (W1 := (qW qv qa9 hv9 ha se9 tv (va_up ta 22 sk9) tb nv na)) (bs := []) rfl rfl rfl ?_
      refine XS.iret eX5_mostLeft_118 rfl rfl ?_
      exact ⟨_, _, _, _, rfl, hS9, hG9, rfl⟩
    · exfalso
      have g9 : ¬ (swL a lv (S.1 24) (S.1 31) k (2 ^ S.1 24)).length ≤ (swL a lv (S.1 24) (S.1 31) k (2 ^ S.1 24)).length := (fun z => h9 ((nI_leI (a := (swL a lv (S.1 24) (S.1 31) k (2 ^ S.1 24)).length) (b := (swL a lv (S.1 24) (S.1 31) k (2 ^ S.1 24)).length) (by omega) (by omega)).mpr z))
      omega
  · intro i hi ihi qa9 hv9 se9 sk9 hS9 hA9 hG9
    have hgd : ((swL a lv (S.1 24) (S.1 31) k (2 ^ S.1 24)).getD i 0) < 2 ^ S.1 24 := swL_lt (by omega)
    have q2 : (qv 2) = (nI (swL a lv (S.1 24) (S.1 31) k (2 ^ S.1 24)).length) := hS2
    refine XG.blk tX5_mostLeft_ok 4 3 (pc' := 9) (pl' := [some (.ref 0), some (.int (nI p)), some (.int (mlF (fun j => akB a lv (S.1 24) (S.1 31) ((swL a lv (S.1 24) (S.1 31) k (2 ^ S.1 24)).getD j 0) p) i)), some (.int (nI i)), none, none]) (st' := [(.int (qv 2)), (.int (nI i))]) (W1 := (qW qv qa9 hv9 ha se9 tv (va_up ta 22 sk9) tb nv na)) (bs := []) rfl rfl rfl ?_
    simp only [q2]
    refine XG.br eX5_mostLeft_9 (P := (nI (swL a lv (S.1 24) (S.1 31) k (2 ^ S.1 24)).length) ≤ (nI i)) (r := []) rfl (tgt := 117) (by decide) (fun h9 => ?_) (fun h9 => ?_)
    · exfalso
      have g9 : (swL a lv (S.1 24) (S.1 31) k (2 ^ S.1 24)).length ≤ i := (nI_leI (a := (swL a lv (S.1 24) (S.1 31) k (2 ^ S.1 24)).length) (b := i) (by omega) (by omega)).mp h9
      omega
    · skip
      have g9 : ¬ (swL a lv (S.1 24) (S.1 31) k (2 ^ S.1 24)).length ≤ i := (fun z => h9 ((nI_leI (a := (swL a lv (S.1 24) (S.1 31) k (2 ^ S.1 24)).length) (b := i) (by omega) (by omega)).mpr z))
      have q3 : (hv9 0) = (a 54 28) := hG9.1
      have q4 : (nI i).toNatClampNeg = i := nI_clamp (by omega)
      have q5 : ((qa9 1) i) = (nI ((swL a lv (S.1 24) (S.1 31) k (2 ^ S.1 24)).getD i 0)) := by rw [hS9.1]; exact hS1 i (by omega)
      refine XG.blk tX5_mostLeft_ok 8 12 (pc' := 36) (pl' := [some (.ref 0), some (.int (nI p)), some (.int (mlF (fun j => akB a lv (S.1 24) (S.1 31) ((swL a lv (S.1 24) (S.1 31) k (2 ^ S.1 24)).getD j 0) p) i)), some (.int (nI i)), none, none]) (st' := [(.int ((qa9 1) (nI i).toNatClampNeg)), (.int (hv9 0)), (.ref 12), (.ref 5)]) (W1 := (qW qv qa9 hv9 ha se9 tv (va_up ta 22 sk9) tb nv na)) (bs := [px_vb (nI i) 64]) rfl rfl (by (try simp only [q3, q4, q5]); exact (px_all (px_vbN (by omega) (by decide)) rfl)) ?_
      simp only [q3, q4, q5]
      refine XG.callV (ro := [12, 13, 14, 15, 16, 17, 18, 19, 20, 21, 22, 23, 24, 25, 26]) (W1 := (tW tv (va_up ta 22 sk9) tb)) eX5_mostLeft_36 kl_X5_60 (cc_asleepAt (d - 1) tv (va_up ta 22 sk9) tb S hsl hsl2 (a 54 28) (nI ((swL a lv (S.1 24) (S.1 31) k (2 ^ S.1 24)).getD i 0))) (px_fitS (by omega)) rfl ⟨rfl, by decide, by decide⟩ rfl rfl (Nat.le_of_ble_eq_true rfl) (fun r9 W9 hp9 hl9 => ?_)
      obtain ⟨rfl, rfl⟩ := hp9
      rw [hdw]
      rw [pt_qt]
      show XG _ _ _ _ _ _ [(.int (awX S (a 54) ((swL a lv (S.1 24) (S.1 31) k (2 ^ S.1 24)).getD i 0))), (.ref 5)] (qW qv qa9 hv9 ha se9 tv (va_up ta 22 sk9) tb nv na)
      refine XG.blk tX5_mostLeft_ok 21 1 (pc' := 42) (pl' := [some (.ref 0), some (.int (nI p)), some (.int (mlF (fun j => akB a lv (S.1 24) (S.1 31) ((swL a lv (S.1 24) (S.1 31) k (2 ^ S.1 24)).getD j 0) p) i)), some (.int (nI i)), none, none]) (st' := []) (W1 := (qW qv qa9 (va_up hv9 4 (awX S (a 54) ((swL a lv (S.1 24) (S.1 31) k (2 ^ S.1 24)).getD i 0))) ha se9 tv (va_up ta 22 sk9) tb nv na)) (bs := []) rfl rfl rfl ?_
      have hG7 := hG9.aw hsl2 (m := ((swL a lv (S.1 24) (S.1 31) k (2 ^ S.1 24)).getD i 0)) (by omega)
      refine XG.blk tX5_mostLeft_ok 22 8 (pc' := 56) (pl' := [some (.ref 0), some (.int (nI p)), some (.int (mlF (fun j => akB a lv (S.1 24) (S.1 31) ((swL a lv (S.1 24) (S.1 31) k (2 ^ S.1 24)).getD j 0) p) i)), some (.int (nI i)), none, none]) (st' := [(.int (nI p)), (.ref 5), (.ref 10), (.int (nI i)), (.ref 4)]) (W1 := (qW qv qa9 (va_up hv9 4 (awX S (a 54) ((swL a lv (S.1 24) (S.1 31) k (2 ^ S.1 24)).getD i 0))) ha se9 tv (va_up ta 22 sk9) tb nv na)) (bs := []) rfl rfl rfl ?_
      refine XG.callV (ro := [10, 11, 12, 13, 14, 15, 16, 17, 18, 19, 20, 21, 22, 23, 24, 25, 26, 5, 6, 7, 8, 9]) (W1 := (rW se9 tv (va_up ta 22 sk9) tb (va_up hv9 4 (awX S (a 54) ((swL a lv (S.1 24) (S.1 31) k (2 ^ S.1 24)).getD i 0))) ha)) eX5_mostLeft_56 kl_X5_71 (cc_borne (d - 1) se9 tv (va_up ta 22 sk9) tb (va_up hv9 4 (awX S (a 54) ((swL a lv (S.1 24) (S.1 31) k (2 ^ S.1 24)).getD i 0))) ha S lv (aQ a) hX (saF (a 54) (S.1 24) (nI ((swL a lv (S.1 24) (S.1 31) k (2 ^ S.1 24)).getD i 0) ^^^ (-1))) hG7 (nI p) (by omega)) (px_fitS (by omega)) rfl ⟨rfl, by decide, by decide⟩ rfl rfl (Nat.le_of_ble_eq_true rfl) (fun r9 W9 hp9 hl9 => ?_)
      obtain ⟨se1, sk1, rfl, rfl⟩ := hp9
      rw [pt_qrh]
      show XG _ _ _ _ _ _ [(.int (bR (aQ a) lv (S.1 24) (S.1 31) (saF (a 54) (S.1 24) (nI ((swL a lv (S.1 24) (S.1 31) k (2 ^ S.1 24)).getD i 0) ^^^ (-1))) (nI p))), (.int (nI i)), (.ref 4)] (qW qv qa9 (va_up hv9 4 (awX S (a 54) ((swL a lv (S.1 24) (S.1 31) k (2 ^ S.1 24)).getD i 0))) ha se1 tv (va_up ta 22 sk1) tb nv na)
      have q6 : (nI i).toNatClampNeg = i := nI_clamp (by omega)
      refine XG.blk tX5_mostLeft_ok 31 5 (pc' := 66) (pl' := [some (.ref 0), some (.int (nI p)), some (.int (mlF (fun j => akB a lv (S.1 24) (S.1 31) ((swL a lv (S.1 24) (S.1 31) k (2 ^ S.1 24)).getD j 0) p) i)), some (.int (nI i)), some (.int (nI 0)), some (.int (nI 0))]) (st' := []) (W1 := (qW qv (va_up qa9 5 (upd (qa9 5) (nI i).toNatClampNeg (bR (aQ a) lv (S.1 24) (S.1 31) (saF (a 54) (S.1 24) (nI ((swL a lv (S.1 24) (S.1 31) k (2 ^ S.1 24)).getD i 0) ^^^ (-1))) (nI p)))) (va_up hv9 4 (awX S (a 54) ((swL a lv (S.1 24) (S.1 31) k (2 ^ S.1 24)).getD i 0))) ha se1 tv (va_up ta 22 sk1) tb nv na)) (bs := [px_vb (nI i) 64]) rfl rfl (by (try simp only [q6]); exact (px_all (px_vbN (by omega) (by decide)) rfl)) ?_
      simp only [q6]
      have hva : ∀ j, j < i + 1 → (upd (qa9 5) i (bR (aQ a) lv (S.1 24) (S.1 31) (saF (a 54) (S.1 24) (nI ((swL a lv (S.1 24) (S.1 31) k (2 ^ S.1 24)).getD i 0) ^^^ (-1))) (nI p))) j = (fun j => akB a lv (S.1 24) (S.1 31) ((swL a lv (S.1 24) (S.1 31) k (2 ^ S.1 24)).getD j 0) p) j := by
        intro j hj
        show upd (qa9 5) i _ j = _
        by_cases e : j = i
        · subst e; rw [upd_eq]
        · rw [upd_ne e]; exact hA9 j (by omega)
      refine px_for (i + 1) (fun j => XG mX5_mostLeft _ 0 0 66 [some (.ref 0), some (.int (nI p)), some (.int (mlF (fun j => akB a lv (S.1 24) (S.1 31) ((swL a lv (S.1 24) (S.1 31) k (2 ^ S.1 24)).getD j 0) p) i)), some (.int (nI i)), some (.int (alk (fun j => akB a lv (S.1 24) (S.1 31) ((swL a lv (S.1 24) (S.1 31) k (2 ^ S.1 24)).getD j 0) p) i j)), some (.int (nI j))] [] (qW qv (va_up qa9 5 (upd (qa9 5) i (bR (aQ a) lv (S.1 24) (S.1 31) (saF (a 54) (S.1 24) (nI ((swL a lv (S.1 24) (S.1 31) k (2 ^ S.1 24)).getD i 0) ^^^ (-1))) (nI p)))) (va_up hv9 4 (awX S (a 54) ((swL a lv (S.1 24) (S.1 31) k (2 ^ S.1 24)).getD i 0))) ha se1 tv (va_up ta 22 sk1) tb nv na)) ?_ ?_ 0 (Nat.zero_le _)
      · skip
        refine XG.blk tX5_mostLeft_ok 36 2 (pc' := 69) (pl' := [some (.ref 0), some (.int (nI p)), some (.int (mlF (fun j => akB a lv (S.1 24) (S.1 31) ((swL a lv (S.1 24) (S.1 31) k (2 ^ S.1 24)).getD j 0) p) i)), some (.int (nI i)), some (.int (alk (fun j => akB a lv (S.1 24) (S.1 31) ((swL a lv (S.1 24) (S.1 31) k (2 ^ S.1 24)).getD j 0) p) i (i + 1))), some (.int (nI (i + 1)))]) (st' := [(.int (nI i)), (.int (nI (i + 1)))]) (W1 := (qW qv (va_up qa9 5 (upd (qa9 5) i (bR (aQ a) lv (S.1 24) (S.1 31) (saF (a 54) (S.1 24) (nI ((swL a lv (S.1 24) (S.1 31) k (2 ^ S.1 24)).getD i 0) ^^^ (-1))) (nI p)))) (va_up hv9 4 (awX S (a 54) ((swL a lv (S.1 24) (S.1 31) k (2 ^ S.1 24)).getD i 0))) ha se1 tv (va_up ta 22 sk1) tb nv na)) (bs := []) rfl rfl rfl ?_
        refine XG.br eX5_mostLeft_69 (P := (nI i) < (nI (i + 1))) (r := []) rfl (tgt := 104) (by decide) (fun h69 => ?_) (fun h69 => ?_)
        · skip
          have g69 : i < (i + 1) := (nI_ltI (a := i) (b := (i + 1)) (by omega) (by omega)).mp h69
          refine XG.blk tX5_mostLeft_ok 56 2 (pc' := 107) (pl' := [some (.ref 0), some (.int (nI p)), some (.int (mlF (fun j => akB a lv (S.1 24) (S.1 31) ((swL a lv (S.1 24) (S.1 31) k (2 ^ S.1 24)).getD j 0) p) i)), some (.int (nI i)), some (.int (alk (fun j => akB a lv (S.1 24) (S.1 31) ((swL a lv (S.1 24) (S.1 31) k (2 ^ S.1 24)).getD j 0) p) i (i + 1))), some (.int (nI (i + 1)))]) (st' := [(.int (alk (fun j => akB a lv (S.1 24) (S.1 31) ((swL a lv (S.1 24) (S.1 31) k (2 ^ S.1 24)).getD j 0) p) i (i + 1))), (.int (mlF (fun j => akB a lv (S.1 24) (S.1 31) ((swL a lv (S.1 24) (S.1 31) k (2 ^ S.1 24)).getD j 0) p) i))]) (W1 := (qW qv (va_up qa9 5 (upd (qa9 5) i (bR (aQ a) lv (S.1 24) (S.1 31) (saF (a 54) (S.1 24) (nI ((swL a lv (S.1 24) (S.1 31) k (2 ^ S.1 24)).getD i 0) ^^^ (-1))) (nI p)))) (va_up hv9 4 (awX S (a 54) ((swL a lv (S.1 24) (S.1 31) k (2 ^ S.1 24)).getD i 0))) ha se1 tv (va_up ta 22 sk1) tb nv na)) (bs := []) rfl rfl rfl ?_
          refine XG.callSp (r := some (.int (mxF (mlF (fun j => akB a lv (S.1 24) (S.1 31) ((swL a lv (S.1 24) (S.1 31) k (2 ^ S.1 24)).getD j 0) p) i) (alk (fun j => akB a lv (S.1 24) (S.1 31) ((swL a lv (S.1 24) (S.1 31) k (2 ^ S.1 24)).getD j 0) p) i (i + 1))))) eX5_mostLeft_107 kl_X5_81 (con_max (d - 1) (mlF (fun j => akB a lv (S.1 24) (S.1 31) ((swL a lv (S.1 24) (S.1 31) k (2 ^ S.1 24)).getD j 0) p) i) (alk (fun j => akB a lv (S.1 24) (S.1 31) ((swL a lv (S.1 24) (S.1 31) k (2 ^ S.1 24)).getD j 0) p) i (i + 1))) (px_fitS (by omega)) rfl rfl rfl rfl (Nat.le_of_ble_eq_true rfl) ?_
          have q7 : ((nI i) + (nI 1)) = (nI (i + 1)) := px_eadd rfl rfl
          refine XG.blk tX5_mostLeft_ok 59 2 (pc' := 114) (pl' := [some (.ref 0), some (.int (nI p)), some (.int (mxF (mlF (fun j => akB a lv (S.1 24) (S.1 31) ((swL a lv (S.1 24) (S.1 31) k (2 ^ S.1 24)).getD j 0) p) i) (alk (fun j => akB a lv (S.1 24) (S.1 31) ((swL a lv (S.1 24) (S.1 31) k (2 ^ S.1 24)).getD j 0) p) i (i + 1)))), some (.int ((nI i) + (nI 1))), some (.int (alk (fun j => akB a lv (S.1 24) (S.1 31) ((swL a lv (S.1 24) (S.1 31) k (2 ^ S.1 24)).getD j 0) p) i (i + 1))), some (.int (nI (i + 1)))]) (st' := []) (W1 := (qW qv (va_up qa9 5 (upd (qa9 5) i (bR (aQ a) lv (S.1 24) (S.1 31) (saF (a 54) (S.1 24) (nI ((swL a lv (S.1 24) (S.1 31) k (2 ^ S.1 24)).getD i 0) ^^^ (-1))) (nI p)))) (va_up hv9 4 (awX S (a 54) ((swL a lv (S.1 24) (S.1 31) k (2 ^ S.1 24)).getD i 0))) ha se1 tv (va_up ta 22 sk1) tb nv na)) (bs := []) rfl rfl rfl ?_
          simp only [q7]
          refine XG.goto eX5_mostLeft_114 (tgt := 4) (by decide) ?_
          refine XG.weak (pl' := [some (.ref 0), some (.int (nI p)), some (.int (mlF (fun j => akB a lv (S.1 24) (S.1 31) ((swL a lv (S.1 24) (S.1 31) k (2 ^ S.1 24)).getD j 0) p) (i + 1))), some (.int (nI (i + 1))), none, none]) ⟨rfl, rfl, rfl, rfl, trivial⟩ ?_
          exact ihi _ _ _ _ ⟨hS9.1, hS9.2.1, hS9.2.2⟩ hva (hG9.put _)
        · exfalso
          have g69 : ¬ i < (i + 1) := (fun z => h69 ((nI_ltI (a := i) (b := (i + 1)) (by omega) (by omega)).mpr z))
          omega
      · intro j hj ihj
        refine XG.blk tX5_mostLeft_ok 36 2 (pc' := 69) (pl' := [some (.ref 0), some (.int (nI p)), some (.int (mlF (fun j => akB a lv (S.1 24) (S.1 31) ((swL a lv (S.1 24) (S.1 31) k (2 ^ S.1 24)).getD j 0) p) i)), some (.int (nI i)), some (.int (alk (fun j => akB a lv (S.1 24) (S.1 31) ((swL a lv (S.1 24) (S.1 31) k (2 ^ S.1 24)).getD j 0) p) i j)), some (.int (nI j))]) (st' := [(.int (nI i)), (.int (nI j))]) (W1 := (qW qv (va_up qa9 5 (upd (qa9 5) i (bR (aQ a) lv (S.1 24) (S.1 31) (saF (a 54) (S.1 24) (nI ((swL a lv (S.1 24) (S.1 31) k (2 ^ S.1 24)).getD i 0) ^^^ (-1))) (nI p)))) (va_up hv9 4 (awX S (a 54) ((swL a lv (S.1 24) (S.1 31) k (2 ^ S.1 24)).getD i 0))) ha se1 tv (va_up ta 22 sk1) tb nv na)) (bs := []) rfl rfl rfl ?_
        refine XG.br eX5_mostLeft_69 (P := (nI i) < (nI j)) (r := []) rfl (tgt := 104) (by decide) (fun h69 => ?_) (fun h69 => ?_)
        · exfalso
          have g69 : i < j := (nI_ltI (a := i) (b := j) (by omega) (by omega)).mp h69
          omega
        · skip
          have g69 : ¬ i < j := (fun z => h69 ((nI_ltI (a := i) (b := j) (by omega) (by omega)).mpr z))
          have q8 : (nI j).toNatClampNeg = j := nI_clamp (by omega)
          have q9 : ((upd (qa9 5) i (bR (aQ a) lv (S.1 24) (S.1 31) (saF (a 54) (S.1 24) (nI ((swL a lv (S.1 24) (S.1 31) k (2 ^ S.1 24)).getD i 0) ^^^ (-1))) (nI p))) j) = ((fun j => akB a lv (S.1 24) (S.1 31) ((swL a lv (S.1 24) (S.1 31) k (2 ^ S.1 24)).getD j 0) p) j) := hva j (by omega)
          have q10 : (nI i).toNatClampNeg = i := nI_clamp (by omega)
          have q11 : ((upd (qa9 5) i (bR (aQ a) lv (S.1 24) (S.1 31) (saF (a 54) (S.1 24) (nI ((swL a lv (S.1 24) (S.1 31) k (2 ^ S.1 24)).getD i 0) ^^^ (-1))) (nI p))) i) = (bR (aQ a) lv (S.1 24) (S.1 31) (saF (a 54) (S.1 24) (nI ((swL a lv (S.1 24) (S.1 31) k (2 ^ S.1 24)).getD i 0) ^^^ (-1))) (nI p)) := pk_us
          refine XG.blk tX5_mostLeft_ok 39 9 (pc' := 87) (pl' := [some (.ref 0), some (.int (nI p)), some (.int (mlF (fun j => akB a lv (S.1 24) (S.1 31) ((swL a lv (S.1 24) (S.1 31) k (2 ^ S.1 24)).getD j 0) p) i)), some (.int (nI i)), some (.int (alk (fun j => akB a lv (S.1 24) (S.1 31) ((swL a lv (S.1 24) (S.1 31) k (2 ^ S.1 24)).getD j 0) p) i j)), some (.int (nI j))]) (st' := [(.int ((upd (qa9 5) i (bR (aQ a) lv (S.1 24) (S.1 31) (saF (a 54) (S.1 24) (nI ((swL a lv (S.1 24) (S.1 31) k (2 ^ S.1 24)).getD i 0) ^^^ (-1))) (nI p))) (nI i).toNatClampNeg)), (.int ((upd (qa9 5) i (bR (aQ a) lv (S.1 24) (S.1 31) (saF (a 54) (S.1 24) (nI ((swL a lv (S.1 24) (S.1 31) k (2 ^ S.1 24)).getD i 0) ^^^ (-1))) (nI p))) (nI j).toNatClampNeg)), (.int (alk (fun j => akB a lv (S.1 24) (S.1 31) ((swL a lv (S.1 24) (S.1 31) k (2 ^ S.1 24)).getD j 0) p) i j))]) (W1 := (qW qv (va_up qa9 5 (upd (qa9 5) i (bR (aQ a) lv (S.1 24) (S.1 31) (saF (a 54) (S.1 24) (nI ((swL a lv (S.1 24) (S.1 31) k (2 ^ S.1 24)).getD i 0) ^^^ (-1))) (nI p)))) (va_up hv9 4 (awX S (a 54) ((swL a lv (S.1 24) (S.1 31) k (2 ^ S.1 24)).getD i 0))) ha se1 tv (va_up ta 22 sk1) tb nv na)) (bs := [px_vb (nI j) 64, px_vb (nI i) 64]) rfl rfl (by (try simp only [q8, q9, q10, q11]); exact (px_all (px_vbN (by omega) (by decide)) (px_all (px_vbN (by omega) (by decide)) rfl))) ?_
          simp only [q8, q9, q10, q11]
          refine XG.br eX5_mostLeft_87 (P := ¬ ((fun j => akB a lv (S.1 24) (S.1 31) ((swL a lv (S.1 24) (S.1 31) k (2 ^ S.1 24)).getD j 0) p) j) = (bR (aQ a) lv (S.1 24) (S.1 31) (saF (a 54) (S.1 24) (nI ((swL a lv (S.1 24) (S.1 31) k (2 ^ S.1 24)).getD i 0) ^^^ (-1))) (nI p))) (r := [(.int (alk (fun j => akB a lv (S.1 24) (S.1 31) ((swL a lv (S.1 24) (S.1 31) k (2 ^ S.1 24)).getD j 0) p) i j))]) rfl (tgt := 94) (by decide) (fun h87 => ?_) (fun h87 => ?_)
          · skip
            have q12 : ((nI j) + (nI 1)) = (nI (j + 1)) := px_eadd rfl rfl
            refine XG.blk tX5_mostLeft_ok 51 4 (pc' := 101) (pl' := [some (.ref 0), some (.int (nI p)), some (.int (mlF (fun j => akB a lv (S.1 24) (S.1 31) ((swL a lv (S.1 24) (S.1 31) k (2 ^ S.1 24)).getD j 0) p) i)), some (.int (nI i)), some (.int ((alk (fun j => akB a lv (S.1 24) (S.1 31) ((swL a lv (S.1 24) (S.1 31) k (2 ^ S.1 24)).getD j 0) p) i j) + (nI 0))), some (.int ((nI j) + (nI 1)))]) (st' := []) (W1 := (qW qv (va_up qa9 5 (upd (qa9 5) i (bR (aQ a) lv (S.1 24) (S.1 31) (saF (a 54) (S.1 24) (nI ((swL a lv (S.1 24) (S.1 31) k (2 ^ S.1 24)).getD i 0) ^^^ (-1))) (nI p)))) (va_up hv9 4 (awX S (a 54) ((swL a lv (S.1 24) (S.1 31) k (2 ^ S.1 24)).getD i 0))) ha se1 tv (va_up ta 22 sk1) tb nv na)) (bs := []) rfl rfl rfl ?_
            simp only [q12]
            refine XG.goto eX5_mostLeft_101 (tgt := 66) (by decide) ?_
            rw [show (alk (fun j => akB a lv (S.1 24) (S.1 31) ((swL a lv (S.1 24) (S.1 31) k (2 ^ S.1 24)).getD j 0) p) i (j + 1)) = (alk (fun j => akB a lv (S.1 24) (S.1 31) ((swL a lv (S.1 24) (S.1 31) k (2 ^ S.1 24)).getD j 0) p) i j) + nI 0 from (if_neg h87).trans (Int32.add_zero _).symm] at ihj; exact ihj
          · skip
            have h87 := Decidable.not_not.mp h87
            refine XG.blk tX5_mostLeft_ok 49 1 (pc' := 91) (pl' := [some (.ref 0), some (.int (nI p)), some (.int (mlF (fun j => akB a lv (S.1 24) (S.1 31) ((swL a lv (S.1 24) (S.1 31) k (2 ^ S.1 24)).getD j 0) p) i)), some (.int (nI i)), some (.int (alk (fun j => akB a lv (S.1 24) (S.1 31) ((swL a lv (S.1 24) (S.1 31) k (2 ^ S.1 24)).getD j 0) p) i j)), some (.int (nI j))]) (st' := [(.int (nI 1)), (.int (alk (fun j => akB a lv (S.1 24) (S.1 31) ((swL a lv (S.1 24) (S.1 31) k (2 ^ S.1 24)).getD j 0) p) i j))]) (W1 := (qW qv (va_up qa9 5 (upd (qa9 5) i (bR (aQ a) lv (S.1 24) (S.1 31) (saF (a 54) (S.1 24) (nI ((swL a lv (S.1 24) (S.1 31) k (2 ^ S.1 24)).getD i 0) ^^^ (-1))) (nI p)))) (va_up hv9 4 (awX S (a 54) ((swL a lv (S.1 24) (S.1 31) k (2 ^ S.1 24)).getD i 0))) ha se1 tv (va_up ta 22 sk1) tb nv na)) (bs := []) rfl rfl rfl ?_
            refine XG.goto eX5_mostLeft_91 (tgt := 95) (by decide) ?_
            have q13 : ((nI j) + (nI 1)) = (nI (j + 1)) := px_eadd rfl rfl
            refine XG.blk tX5_mostLeft_ok 52 3 (pc' := 101) (pl' := [some (.ref 0), some (.int (nI p)), some (.int (mlF (fun j => akB a lv (S.1 24) (S.1 31) ((swL a lv (S.1 24) (S.1 31) k (2 ^ S.1 24)).getD j 0) p) i)), some (.int (nI i)), some (.int ((alk (fun j => akB a lv (S.1 24) (S.1 31) ((swL a lv (S.1 24) (S.1 31) k (2 ^ S.1 24)).getD j 0) p) i j) + (nI 1))), some (.int ((nI j) + (nI 1)))]) (st' := []) (W1 := (qW qv (va_up qa9 5 (upd (qa9 5) i (bR (aQ a) lv (S.1 24) (S.1 31) (saF (a 54) (S.1 24) (nI ((swL a lv (S.1 24) (S.1 31) k (2 ^ S.1 24)).getD i 0) ^^^ (-1))) (nI p)))) (va_up hv9 4 (awX S (a 54) ((swL a lv (S.1 24) (S.1 31) k (2 ^ S.1 24)).getD i 0))) ha se1 tv (va_up ta 22 sk1) tb nv na)) (bs := []) rfl rfl rfl ?_
            simp only [q13]
            refine XG.goto eX5_mostLeft_101 (tgt := 66) (by decide) ?_
            rw [show (alk (fun j => akB a lv (S.1 24) (S.1 31) ((swL a lv (S.1 24) (S.1 31) k (2 ^ S.1 24)).getD j 0) p) i (j + 1)) = (alk (fun j => akB a lv (S.1 24) (S.1 31) ((swL a lv (S.1 24) (S.1 31) k (2 ^ S.1 24)).getD j 0) p) i j) + nI 1 from if_pos h87] at ihj; exact ihj
def bqF (M : Nat → Int32) : Nat → Int32 × Int32 → Int32 × Int32 := fun p s => if M p < s.2 then (nI p, M p) else s
set_option maxHeartbeats 1000000 in
theorem cc_bestQuestion (d : Nat) (qv : Nat → Int32) (qa : Nat → Nat → Int32) (hv : Nat → Int32) (ha : Nat → Nat → Int32) (se : Nat → Int32) (tv : Nat → Int32) (ta : Nat → Nat → Int32) (tb : Nat → Nat → Int64) (nv : Nat → Int32) (na : Nat → Nat → Int32) (S : SD) (lv : Nat) (v : Nat → Int32) (a : Nat → Nat → Int32) (hX : CX S lv (aQ a) tv ta) (hN : CNt S (a 54) nv na) (k : Nat) (hS2 : qv 2 = nI (swL a lv (S.1 24) (S.1 31) k (2 ^ S.1 24)).length) (hS1 : atL (swL a lv (S.1 24) (S.1 31) k (2 ^ S.1 24)) (qa 1)) (hG : GH S (a 54) hv ha) (hd : 5 ≤ d) : Con mX5_bestQuestion d [.ref 0] (qW qv qa hv ha se tv ta tb nv na) (fun r W' => ∃ qa' hv' se' sk', W' = qW qv qa' hv' ha se' tv (va_up ta 22 sk') tb nv na ∧ (qa' 1 = qa 1 ∧ qa' 3 = qa 3 ∧ qa' 4 = qa 4) ∧ GH S (a 54) hv' ha ∧ r = some (.int ((itN (bqF (fun p => mlF (fun j => akB a lv (S.1 24) (S.1 31) ((swL a lv (S.1 24) (S.1 31) k (2 ^ S.1 24)).getD j 0) p) (swL a lv (S.1 24) (S.1 31) k (2 ^ S.1 24)).length)) (nI 0, nI 65) (S.1 23)).1))) := by
  obtain ⟨hcr, hcr2⟩ := hX.cr
  obtain ⟨hsl, hsl2⟩ := hX.sl
  obtain ⟨hsp, hsp1, hsp2⟩ := hX.sp
  obtain ⟨hdw, hdw2, hdw3⟩ := hX.dw
  refine Con.of (by decide) (Nat.le_of_ble_eq_true rfl) ?_
  refine XG.blk tX5_bestQuestion_ok 0 6 (pc' := 7) (pl' := [some (.ref 0), some (.int (nI 0)), some (.int (nI 65)), some (.int (nI 0)), none]) (st' := []) (W1 := (qW qv qa hv ha se tv ta tb nv na)) (bs := []) rfl rfl rfl ?_
  refine px_for (S.1 23) (fun i => ∀ (qa9 : Nat → Nat → Int32) (hv9 : Nat → Int32) (se9 sk9 : Nat → Int32) (_ : qa9 1 = qa 1 ∧ qa9 3 = qa 3 ∧ qa9 4 = qa 4) (_ : GH S (a 54) hv9 ha), XG mX5_bestQuestion _ 0 0 7 [some (.ref 0), some (.int (itN (bqF (fun p => mlF (fun j => akB a lv (S.1 24) (S.1 31) ((swL a lv (S.1 24) (S.1 31) k (2 ^ S.1 24)).getD j 0) p) (swL a lv (S.1 24) (S.1 31) k (2 ^ S.1 24)).length)) (nI 0, nI 65) i).1), some (.int (itN (bqF (fun p => mlF (fun j => akB a lv (S.1 24) (S.1 31) ((swL a lv (S.1 24) (S.1 31) k (2 ^ S.1 24)).getD j 0) p) (swL a lv (S.1 24) (S.1 31) k (2 ^ S.1 24)).length)) (nI 0, nI 65) i).2), some (.int (nI i)), none] [] (qW qv qa9 hv9 ha se9 tv (va_up ta 22 sk9) tb nv na)) ?_ ?_ 0 (Nat.zero_le _) _ _ se (ta 22) ⟨rfl, rfl, rfl⟩ hG
  · intro qa9 hv9 se9 sk9 hS9 hG9
    have q1 : (tv 0) = (nI (S.1 23)) := hsp
    refine XG.blk tX5_bestQuestion_ok 6 5 (pc' := 18) (pl' := [some (.ref 0), some (.int (itN (bqF (fun p => mlF (fun j => akB a lv (S.1 24) (S.1 31) ((swL a lv (S.1 24) (S.1 31) k (2 ^ S.1 24)).getD j 0) p) (swL a lv (S.1 24) (S.1 31) k (2 ^ S.1 24)).length)) (nI 0, nI 65) (S.1 23)).1), some (.int (itN (bqF (fun p => mlF (fun j => akB a lv (S.1 24) (S.1 31) ((swL a lv (S.1 24) (S.1 31) k (2 ^ S.1 24)).getD j 0) p) (swL a lv (S.1 24) (S.1 31) k (2 ^ S.1 24)).length)) (nI 0, nI 65) (S.1 23)).2), some (.int (nI (S.1 23))), none]) (st' := [(.int (tv 0)), (.int (nI (S.1 23)))]) (W1 := (qW qv qa9 hv9 ha se9 tv (va_up ta 22 sk9) tb nv na)) (bs := []) rfl rfl rfl ?_
    simp only [q1]
    refine XG.br eX5_bestQuestion_18 (P := (nI (S.1 23)) ≤ (nI (S.1 23))) (r := []) rfl (tgt := 45) (by decide) (fun h18 => ?_) (fun h18 => ?_)
    · skip
      have g18 : (S.1 23) ≤ (S.1 23) := (nI_leI (a := (S.1 23)) (b := (S.1 23)) (by omega) (by omega)).mp h18
      refine XG.blk tX5_bestQuestion_ok 25 1 (pc' := 46) (pl' := [some (.ref 0), some (.int (itN (bqF (fun p => mlF (fun j => akB a lv (S.1 24) (S.1 31) ((swL a lv (S.1 24) (S.1 31) k (2 ^ S.1 24)).getD j 0) p) (swL a lv (S.1 24) (S.1 31) k (2 ^ S.1 24)).length)) (nI 0, nI 65) (S.1 23)).1), some (.int (itN (bqF (fun p => mlF (fun j => akB a lv (S.1 24) (S.1 31) ((swL a lv (S.1 24) (S.1 31) k (2 ^ S.1 24)).getD j 0) p) (swL a lv (S.1 24) (S.1 31) k (2 ^ S.1 24)).length)) (nI 0, nI 65) (S.1 23)).2), some (.int (nI (S.1 23))), none]) (st' := [(.int (itN (bqF (fun p => mlF (fun j => akB a lv (S.1 24) (S.1 31) ((swL a lv (S.1 24) (S.1 31) k (2 ^ S.1 24)).getD j 0) p) (swL a lv (S.1 24) (S.1 31) k (2 ^ S.1 24)).length)) (nI 0, nI 65) (S.1 23)).1)]) (W1 := (qW qv qa9 hv9 ha se9 tv (va_up ta 22 sk9) tb nv na)) (bs := []) rfl rfl rfl ?_
      refine XS.iret eX5_bestQuestion_46 rfl rfl ?_
      exact ⟨_, _, _, _, rfl, hS9, hG9, rfl⟩
    · exfalso
      have g18 : ¬ (S.1 23) ≤ (S.1 23) := (fun z => h18 ((nI_leI (a := (S.1 23)) (b := (S.1 23)) (by omega) (by omega)).mpr z))
      omega
  · intro i hi ihi qa9 hv9 se9 sk9 hS9 hG9
    have q2 : (tv 0) = (nI (S.1 23)) := hsp
    refine XG.blk tX5_bestQuestion_ok 6 5 (pc' := 18) (pl' := [some (.ref 0), some (.int (itN (bqF (fun p => mlF (fun j => akB a lv (S.1 24) (S.1 31) ((swL a lv (S.1 24) (S.1 31) k (2 ^ S.1 24)).getD j 0) p) (swL a lv (S.1 24) (S.1 31) k (2 ^ S.1 24)).length)) (nI 0, nI 65) i).1), some (.int (itN (bqF (fun p => mlF (fun j => akB a lv (S.1 24) (S.1 31) ((swL a lv (S.1 24) (S.1 31) k (2 ^ S.1 24)).getD j 0) p) (swL a lv (S.1 24) (S.1 31) k (2 ^ S.1 24)).length)) (nI 0, nI 65) i).2), some (.int (nI i)), none]) (st' := [(.int (tv 0)), (.int (nI i))]) (W1 := (qW qv qa9 hv9 ha se9 tv (va_up ta 22 sk9) tb nv na)) (bs := []) rfl rfl rfl ?_
    simp only [q2]
    refine XG.br eX5_bestQuestion_18 (P := (nI (S.1 23)) ≤ (nI i)) (r := []) rfl (tgt := 45) (by decide) (fun h18 => ?_) (fun h18 => ?_)
    · exfalso
      have g18 : (S.1 23) ≤ i := (nI_leI (a := (S.1 23)) (b := i) (by omega) (by omega)).mp h18
      omega
    · skip
      have g18 : ¬ (S.1 23) ≤ i := (fun z => h18 ((nI_leI (a := (S.1 23)) (b := i) (by omega) (by omega)).mpr z))
      refine XG.blk tX5_bestQuestion_ok 12 2 (pc' := 23) (pl' := [some (.ref 0), some (.int (itN (bqF (fun p => mlF (fun j => akB a lv (S.1 24) (S.1 31) ((swL a lv (S.1 24) (S.1 31) k (2 ^ S.1 24)).getD j 0) p) (swL a lv (S.1 24) (S.1 31) k (2 ^ S.1 24)).length)) (nI 0, nI 65) i).1), some (.int (itN (bqF (fun p => mlF (fun j => akB a lv (S.1 24) (S.1 31) ((swL a lv (S.1 24) (S.1 31) k (2 ^ S.1 24)).getD j 0) p) (swL a lv (S.1 24) (S.1 31) k (2 ^ S.1 24)).length)) (nI 0, nI 65) i).2), some (.int (nI i)), none]) (st' := [(.int (nI i)), (.ref 0)]) (W1 := (qW qv qa9 hv9 ha se9 tv (va_up ta 22 sk9) tb nv na)) (bs := []) rfl rfl rfl ?_
      refine XG.callV0 eX5_bestQuestion_23 kl_X5_77 (cc_mostLeft (d - 1) qv qa9 hv9 ha se9 tv (va_up ta 22 sk9) tb nv na S lv v a hX hN k i hS2 (by rw [hS9.1]; exact hS1) hG9 (by omega)) (px_fitS (by omega)) rfl rfl rfl (Nat.le_of_ble_eq_true rfl) (fun r9 W9 hp9 hl9 => ?_)
      obtain ⟨qa1, hv1, se1, sk1, rfl, hS1, hG1, rfl⟩ := hp9
      show XG _ _ _ _ _ _ [(.int (mlF (fun j => akB a lv (S.1 24) (S.1 31) ((swL a lv (S.1 24) (S.1 31) k (2 ^ S.1 24)).getD j 0) i) (swL a lv (S.1 24) (S.1 31) k (2 ^ S.1 24)).length))] (qW qv qa1 hv1 ha se1 tv (va_up ta 22 sk1) tb nv na)
      refine XG.blk tX5_bestQuestion_ok 15 3 (pc' := 31) (pl' := [some (.ref 0), some (.int (itN (bqF (fun p => mlF (fun j => akB a lv (S.1 24) (S.1 31) ((swL a lv (S.1 24) (S.1 31) k (2 ^ S.1 24)).getD j 0) p) (swL a lv (S.1 24) (S.1 31) k (2 ^ S.1 24)).length)) (nI 0, nI 65) i).1), some (.int (itN (bqF (fun p => mlF (fun j => akB a lv (S.1 24) (S.1 31) ((swL a lv (S.1 24) (S.1 31) k (2 ^ S.1 24)).getD j 0) p) (swL a lv (S.1 24) (S.1 31) k (2 ^ S.1 24)).length)) (nI 0, nI 65) i).2), some (.int (nI i)), some (.int (mlF (fun j => akB a lv (S.1 24) (S.1 31) ((swL a lv (S.1 24) (S.1 31) k (2 ^ S.1 24)).getD j 0) i) (swL a lv (S.1 24) (S.1 31) k (2 ^ S.1 24)).length))]) (st' := [(.int (itN (bqF (fun p => mlF (fun j => akB a lv (S.1 24) (S.1 31) ((swL a lv (S.1 24) (S.1 31) k (2 ^ S.1 24)).getD j 0) p) (swL a lv (S.1 24) (S.1 31) k (2 ^ S.1 24)).length)) (nI 0, nI 65) i).2), (.int (mlF (fun j => akB a lv (S.1 24) (S.1 31) ((swL a lv (S.1 24) (S.1 31) k (2 ^ S.1 24)).getD j 0) i) (swL a lv (S.1 24) (S.1 31) k (2 ^ S.1 24)).length))]) (W1 := (qW qv qa1 hv1 ha se1 tv (va_up ta 22 sk1) tb nv na)) (bs := []) rfl rfl rfl ?_
      refine XG.br eX5_bestQuestion_31 (P := (itN (bqF (fun p => mlF (fun j => akB a lv (S.1 24) (S.1 31) ((swL a lv (S.1 24) (S.1 31) k (2 ^ S.1 24)).getD j 0) p) (swL a lv (S.1 24) (S.1 31) k (2 ^ S.1 24)).length)) (nI 0, nI 65) i).2 ≤ (mlF (fun j => akB a lv (S.1 24) (S.1 31) ((swL a lv (S.1 24) (S.1 31) k (2 ^ S.1 24)).getD j 0) i) (swL a lv (S.1 24) (S.1 31) k (2 ^ S.1 24)).length)) (r := []) rfl (tgt := 39) (by decide) (fun h31 => ?_) (fun h31 => ?_)
      · skip
        have q3 : ((nI i) + (nI 1)) = (nI (i + 1)) := px_eadd rfl rfl
        refine XG.blk tX5_bestQuestion_ok 23 1 (pc' := 42) (pl' := [some (.ref 0), some (.int (itN (bqF (fun p => mlF (fun j => akB a lv (S.1 24) (S.1 31) ((swL a lv (S.1 24) (S.1 31) k (2 ^ S.1 24)).getD j 0) p) (swL a lv (S.1 24) (S.1 31) k (2 ^ S.1 24)).length)) (nI 0, nI 65) i).1), some (.int (itN (bqF (fun p => mlF (fun j => akB a lv (S.1 24) (S.1 31) ((swL a lv (S.1 24) (S.1 31) k (2 ^ S.1 24)).getD j 0) p) (swL a lv (S.1 24) (S.1 31) k (2 ^ S.1 24)).length)) (nI 0, nI 65) i).2), some (.int ((nI i) + (nI 1))), some (.int (mlF (fun j => akB a lv (S.1 24) (S.1 31) ((swL a lv (S.1 24) (S.1 31) k (2 ^ S.1 24)).getD j 0) i) (swL a lv (S.1 24) (S.1 31) k (2 ^ S.1 24)).length))]) (st' := []) (W1 := (qW qv qa1 hv1 ha se1 tv (va_up ta 22 sk1) tb nv na)) (bs := []) rfl rfl rfl ?_
        simp only [q3]
        refine XG.goto eX5_bestQuestion_42 (tgt := 7) (by decide) ?_
        rw [show (itN (bqF (fun p => mlF (fun j => akB a lv (S.1 24) (S.1 31) ((swL a lv (S.1 24) (S.1 31) k (2 ^ S.1 24)).getD j 0) p) (swL a lv (S.1 24) (S.1 31) k (2 ^ S.1 24)).length)) (nI 0, nI 65) (i + 1)) = (itN (bqF (fun p => mlF (fun j => akB a lv (S.1 24) (S.1 31) ((swL a lv (S.1 24) (S.1 31) k (2 ^ S.1 24)).getD j 0) p) (swL a lv (S.1 24) (S.1 31) k (2 ^ S.1 24)).length)) (nI 0, nI 65) i) from if_neg (Int32.not_lt.mpr h31)] at ihi
        refine XG.weak (pl' := [some (.ref 0), some (.int (itN (bqF (fun p => mlF (fun j => akB a lv (S.1 24) (S.1 31) ((swL a lv (S.1 24) (S.1 31) k (2 ^ S.1 24)).getD j 0) p) (swL a lv (S.1 24) (S.1 31) k (2 ^ S.1 24)).length)) (nI 0, nI 65) i).1), some (.int (itN (bqF (fun p => mlF (fun j => akB a lv (S.1 24) (S.1 31) ((swL a lv (S.1 24) (S.1 31) k (2 ^ S.1 24)).getD j 0) p) (swL a lv (S.1 24) (S.1 31) k (2 ^ S.1 24)).length)) (nI 0, nI 65) i).2), some (.int (nI (i + 1))), none]) ⟨rfl, rfl, rfl, rfl, trivial⟩ ?_
        exact ihi _ _ _ _ ⟨hS1.1.trans hS9.1, hS1.2.1.trans hS9.2.1, hS1.2.2.trans hS9.2.2⟩ hG1
      · skip
        have q4 : ((nI i) + (nI 1)) = (nI (i + 1)) := px_eadd rfl rfl
        refine XG.blk tX5_bestQuestion_ok 19 5 (pc' := 42) (pl' := [some (.ref 0), some (.int (nI i)), some (.int (mlF (fun j => akB a lv (S.1 24) (S.1 31) ((swL a lv (S.1 24) (S.1 31) k (2 ^ S.1 24)).getD j 0) i) (swL a lv (S.1 24) (S.1 31) k (2 ^ S.1 24)).length)), some (.int ((nI i) + (nI 1))), some (.int (mlF (fun j => akB a lv (S.1 24) (S.1 31) ((swL a lv (S.1 24) (S.1 31) k (2 ^ S.1 24)).getD j 0) i) (swL a lv (S.1 24) (S.1 31) k (2 ^ S.1 24)).length))]) (st' := []) (W1 := (qW qv qa1 hv1 ha se1 tv (va_up ta 22 sk1) tb nv na)) (bs := []) rfl rfl rfl ?_
        simp only [q4]
        refine XG.goto eX5_bestQuestion_42 (tgt := 7) (by decide) ?_
        rw [show (itN (bqF (fun p => mlF (fun j => akB a lv (S.1 24) (S.1 31) ((swL a lv (S.1 24) (S.1 31) k (2 ^ S.1 24)).getD j 0) p) (swL a lv (S.1 24) (S.1 31) k (2 ^ S.1 24)).length)) (nI 0, nI 65) (i + 1)) = (nI i, (mlF (fun j => akB a lv (S.1 24) (S.1 31) ((swL a lv (S.1 24) (S.1 31) k (2 ^ S.1 24)).getD j 0) i) (swL a lv (S.1 24) (S.1 31) k (2 ^ S.1 24)).length)) from if_pos (Int32.not_le.mp h31)] at ihi
        refine XG.weak (pl' := [some (.ref 0), some (.int (nI i)), some (.int (mlF (fun j => akB a lv (S.1 24) (S.1 31) ((swL a lv (S.1 24) (S.1 31) k (2 ^ S.1 24)).getD j 0) i) (swL a lv (S.1 24) (S.1 31) k (2 ^ S.1 24)).length)), some (.int (nI (i + 1))), none]) ⟨rfl, rfl, rfl, rfl, trivial⟩ ?_
        exact ihi _ _ _ _ ⟨hS1.1.trans hS9.1, hS1.2.1.trans hS9.2.1, hS1.2.2.trans hS9.2.2⟩ hG1
