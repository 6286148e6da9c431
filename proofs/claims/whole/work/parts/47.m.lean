/-! the reference: then, year -/
theorem con_isLong (d : Nat) (x : Int32) (hd : 1 ≤ d) : Con mX9_isLong d [.int x] [] (fun r _ => r = some (.int (if px_vb x 100 = true then 1 else 0))) := by
  refine Con.of (by decide) (Nat.le_of_ble_eq_true rfl) ?_
  refine XG.blk tX9_isLong_ok 0 3 (pc' := 4) (pl' := [some (.int x)]) (st' := [(.int (nI 99)), (.int (nI 0)), (.int x)]) (W1 := []) (bs := []) rfl rfl rfl ?_
  refine XG.callSp (r := some (.int (if (nI 0) ≤ x ∧ x ≤ (nI 99) then 1 else 0))) eX9_isLong_4 kl_X9_331 (con_in (d - 1) x (nI 0) (nI 99)) (px_fitS (by omega)) rfl rfl rfl rfl (Nat.le_of_ble_eq_true rfl) ?_
  refine XS.iret eX9_isLong_7 rfl ite_one ?_
  congr 2
  simp only [show (nI 0 ≤ x ∧ x ≤ nI 99) ↔ px_vb x 100 = true from px_inR (n := 100) (by decide) (by decide)]
def bitF (s : Int32) : Nat → Int32 → Int32 := fun k n => n + ((s >>> (nI k &&& 31)) &&& nI 1)
def bitsN (s : Int32) : Int32 := itN (bitF s) 0 6
theorem con_bits (d : Nat) (s : Int32) : Con mX9_bits d [.int s] [] (fun r _ => r = some (.int (bitsN s))) := by
  refine Con.of (by decide) (Nat.le_of_ble_eq_true rfl) ?_
  refine XG.blk tX9_bits_ok 0 4 (pc' := 4) (pl' := [some (.int s), some (.int (nI 0)), some (.int (nI 0))]) (st' := []) (W1 := []) (bs := []) rfl rfl rfl ?_
  refine px_for 6 (fun i => XG mX9_bits _ 0 0 4 [some (.int s), some (.int (itN (bitF s) 0 i)), some (.int (nI i))] [] []) ?_ ?_ 0 (by omega)
  · skip
    refine XG.blk tX9_bits_ok 4 2 (pc' := 7) (pl' := [some (.int s), some (.int (itN (bitF s) 0 6)), some (.int (nI 6))]) (st' := [(.int (nI 6)), (.int (nI 6))]) (W1 := []) (bs := []) rfl rfl rfl ?_
    refine XG.br eX9_bits_7 (P := (nI 6) ≤ (nI 6)) (r := []) rfl (tgt := 24) (by decide) (fun h7 => ?_) (fun h7 => ?_)
    · skip
      have g7 : 6 ≤ 6 := (nI_leI (a := 6) (b := 6) (by omega) (by omega)).mp h7
      refine XG.blk tX9_bits_ok 17 1 (pc' := 25) (pl' := [some (.int s), some (.int (itN (bitF s) 0 6)), some (.int (nI 6))]) (st' := [(.int (itN (bitF s) 0 6))]) (W1 := []) (bs := []) rfl rfl rfl ?_
      refine XS.iret eX9_bits_25 rfl rfl ?_
      rfl
    · exfalso
      have g7 : ¬ 6 ≤ 6 := (fun z => h7 ((nI_leI (a := 6) (b := 6) (by omega) (by omega)).mpr z))
      omega
  · intro i hi ihi
    refine XG.blk tX9_bits_ok 4 2 (pc' := 7) (pl' := [some (.int s), some (.int (itN (bitF s) 0 i)), some (.int (nI i))]) (st' := [(.int (nI 6)), (.int (nI i))]) (W1 := []) (bs := []) rfl rfl rfl ?_
    refine XG.br eX9_bits_7 (P := (nI 6) ≤ (nI i)) (r := []) rfl (tgt := 24) (by decide) (fun h7 => ?_) (fun h7 => ?_)
    · exfalso
      have g7 : 6 ≤ i := (nI_leI (a := 6) (b := i) (by omega) (by omega)).mp h7
      omega
    · skip
      have g7 : ¬ 6 ≤ i := (fun z => h7 ((nI_leI (a := 6) (b := i) (by omega) (by omega)).mpr z))
      have q1 : ((nI i) + (nI 1)) = (nI (i + 1)) := px_eadd rfl rfl
      refine XG.blk tX9_bits_ok 7 9 (pc' := 21) (pl' := [some (.int s), some (.int ((itN (bitF s) 0 i) + ((s >>> ((nI i) &&& 31)) &&& (nI 1)))), some (.int ((nI i) + (nI 1)))]) (st' := []) (W1 := []) (bs := []) rfl rfl rfl ?_
      simp only [q1]
      refine XG.goto eX9_bits_21 (tgt := 4) (by decide) ?_
      exact ihi
theorem con_abK (d : Nat) (v0 v : Nat → Int32) (a0 a : Nat → Nat → Int32) (b : Nat → Nat → Int64) (r w : Nat → Int32) (h : K v0 a0 r w v a) (lv sp sl cr : Nat) (I0 : MI v0 a0 lv sp sl cr) (hd : 1 ≤ d) : Con mX9_asleepBits d [.ref 0] (mW v a b) (fun q W' => W' = mW v a b ∧ q = some (.int (itN (asleepF r (a0 35 lv)) 0 sl))) := by
  have h1 := con_asleepBits d v a b lv sp sl cr (h.MI I0) hd
  rw [h.2.2.1, h.2.1 35 (by decide)] at h1
  exact h1
theorem con_btK (d : Nat) (v0 v : Nat → Int32) (a0 a : Nat → Nat → Int32) (b : Nat → Nat → Int64) (r w : Nat → Int32) (h : K v0 a0 r w v a) (lv sp sl cr : Nat) (I0 : MI v0 a0 lv sp sl cr) (fr n : Nat) (so : Int32) (hn : fr + n ≤ 32) : Con mX9_bitsOf d [.ref 0, .int (nI fr), .int (nI n), .int so] (mW v a b) (fun q W' => W' = mW v a b ∧ q = some (.int (itN (bitsF r fr so) 0 n))) := by
  have h1 := con_bitsOf d v a b fr n so hn
  rw [h.2.2.1] at h1
  exact h1
abbrev lR (a0 : Nat → Nat → Int32) (lv sp sl cr : Nat) (r : Nat → Int32) : Int32 := least (va_up a0 55 r) lv sp sl cr
theorem con_leK (d : Nat) (v0 v : Nat → Int32) (a0 a : Nat → Nat → Int32) (b : Nat → Nat → Int64) (r w : Nat → Int32) (h : K v0 a0 r w v a) (lv sp sl cr : Nat) (I0 : MI v0 a0 lv sp sl cr) (hw3 : wf3 a0 lv) (hd : 6 ≤ d) : Con mX9_leastNow d [.ref 0] (mW v a b) (fun q W' => ∃ v' a', W' = mW v' a' b ∧ J v v' a a' ∧ q = some (.int (lR a0 lv sp sl cr r))) := by
  have h1 := con_leastNow d v v a a b J.rf lv sp sl cr (h.MI I0) (h.w3 hw3) hd
  rw [least_chg h.rel] at h1
  exact h1
def qThen (v : Nat → Int32) (a : Nat → Nat → Int32) (lv sp sl cr n : Nat) (q what which : Int32) : Int32 :=
  swF what [snR (vQ v a lv q) (aQ a) lv sp sl cr (a 54) n (18 + which.toNatClampNeg), bR (aQ a) lv sl cr (snR (vQ v a lv q) (aQ a) lv sp sl cr (a 54) n) which, bitsN (itN (asleepF (snR (vQ v a lv q) (aQ a) lv sp sl cr (a 54) n) (a 35 lv)) 0 sl), snR (vQ v a lv q) (aQ a) lv sp sl cr (a 54) n 31 - a 54 31, bitsN (itN (bitsF (snR (vQ v a lv q) (aQ a) lv sp sl cr (a 54) n) 18 (nI 10)) 0 cr)] (lR (aQ a) lv sp sl cr (snR (vQ v a lv q) (aQ a) lv sp sl cr (a 54) n))
abbrev okThen (sp cr : Nat) (n what which : Int32) : Prop := px_vb n 100 = true ∧ (nI 0 ≤ what ∧ what ≤ nI 5) ∧ (what = 0 → px_vb which cr = true) ∧ (what = nI 1 → px_vb which sp = true)
set_option maxHeartbeats 400000 in
theorem con_then (d : Nat) (v : Nat → Int32) (a : Nat → Nat → Int32) (b : Nat → Nat → Int64) (lv sp sl cr : Nat) (I : MI v a lv sp sl cr) (hwf : wf3 a lv) (n q what which : Int32) (hq : q = 0 ∨ q = 1) (hd : 9 ≤ d) : Con mX9_then d [.ref 0, .int n, .int q, .int what, .int which] (mW v a b) (fun r W' => ∃ v' a', W' = mW v' a' b ∧ Qs v v' a a' ∧ r = some (.int (if okThen sp cr n what which then qThen v a lv sp sl cr n.toNatClampNeg q what which else -100))) := by
  obtain ⟨hlv, hlv2, hsp, hsp1, hsp2, hsl, hsl2, hcr, hcr2⟩ := id I
  by_cases hok : okThen sp cr n what which
  · simp only [if_pos hok]
    obtain ⟨hn, hwh, hw0, hw1⟩ := hok
    obtain ⟨n, hn2, rfl⟩ := px_vb_ex hn (by decide)
    rw [nI_clamp (show n < 2 ^ 31 by omega)]
    refine Con.of (by decide) (Nat.le_of_ble_eq_true rfl) ?_
    refine XG.blk tX9_then_ok 0 1 (pc' := 1) (pl' := [some (.ref 0), some (.int (nI n)), some (.int q), some (.int what), some (.int which)]) (st' := [(.int (nI n))]) (W1 := (mW v a b)) (bs := []) rfl rfl rfl ?_
    refine XG.callSp (r := some (.int (if px_vb (nI n) 100 = true then 1 else 0))) eX9_then_1 kl_X9_418 (con_isLong (d - 1) (nI n) (by omega)) (px_fitS (by omega)) rfl rfl rfl rfl (Nat.le_of_ble_eq_true rfl) ?_
    refine XG.br eX9_then_4 (P := (if px_vb (nI n) 100 = true then 1 else 0) = 0) (r := []) rfl (tgt := 43) (by decide) (fun h4 => ?_) (fun h4 => ?_)
    · exfalso
      first | exact (one_ne.mp h4) hn | exact (one_ne.mp h13) hwh | exact (one_ne.mp h26) (hw0 h17) | exact h40 (fun z => (one_ne.mp z) (hw1 h31)) | exact (one_ne.mp h40) (hw1 h31)
    · skip
      refine XG.blk tX9_then_ok 3 3 (pc' := 10) (pl' := [some (.ref 0), some (.int (nI n)), some (.int q), some (.int what), some (.int which)]) (st' := [(.int (nI 5)), (.int (nI 0)), (.int what)]) (W1 := (mW v a b)) (bs := []) rfl rfl rfl ?_
      refine XG.callSp (r := some (.int (if (nI 0) ≤ what ∧ what ≤ (nI 5) then 1 else 0))) eX9_then_10 kl_X9_331 (con_in (d - 1) what (nI 0) (nI 5)) (px_fitS (by omega)) rfl rfl rfl rfl (Nat.le_of_ble_eq_true rfl) ?_
      refine XG.br eX9_then_13 (P := (if (nI 0) ≤ what ∧ what ≤ (nI 5) then 1 else 0) = 0) (r := []) rfl (tgt := 43) (by decide) (fun h13 => ?_) (fun h13 => ?_)
      · exfalso
        first | exact (one_ne.mp h4) hn | exact (one_ne.mp h13) hwh | exact (one_ne.mp h26) (hw0 h17) | exact h40 (fun z => (one_ne.mp z) (hw1 h31)) | exact (one_ne.mp h40) (hw1 h31)
      · skip
        refine XG.blk tX9_then_ok 8 1 (pc' := 17) (pl' := [some (.ref 0), some (.int (nI n)), some (.int q), some (.int what), some (.int which)]) (st' := [(.int what)]) (W1 := (mW v a b)) (bs := []) rfl rfl rfl ?_
        refine XG.br eX9_then_17 (P := ¬ what = 0) (r := []) rfl (tgt := 29) (by decide) (fun h17 => ?_) (fun h17 => ?_)
        · skip
          refine XG.blk tX9_then_ok 14 2 (pc' := 31) (pl' := [some (.ref 0), some (.int (nI n)), some (.int q), some (.int what), some (.int which)]) (st' := [(.int (nI 1)), (.int what)]) (W1 := (mW v a b)) (bs := []) rfl rfl rfl ?_
          refine XG.br eX9_then_31 (P := ¬ what = (nI 1)) (r := []) rfl (tgt := 46) (by decide) (fun h31 => ?_) (fun h31 => ?_)
          · skip
            refine XG.blk tX9_then_ok 23 1 (pc' := 47) (pl' := [some (.ref 0), some (.int (nI n)), some (.int q), some (.int what), some (.int which)]) (st' := [(.ref 0)]) (W1 := (mW v a b)) (bs := []) rfl rfl rfl ?_
            refine XG.callV0 eX9_then_47 kl_X9_400 (con_copQ (d - 1) v a b lv sp sl cr I) (px_fitS (by omega)) rfl rfl rfl (Nat.le_of_ble_eq_true rfl) (fun r9 W9 hp9 hl9 => ?_)
            obtain ⟨rfl, rfl⟩ := hp9
            refine XG.blk tX9_then_ok 25 3 (pc' := 55) (pl' := [some (.ref 0), some (.int (nI n)), some (.int q), some (.int what), some (.int which)]) (st' := []) (W1 := (mW (va_up (vQ v a lv 0) 57 q) (aQ a) b)) (bs := [(q == 0 || q == 1)]) rfl rfl (px_all ((by rcases hq with rfl | rfl <;> rfl)) rfl) ?_
            show XG _ _ _ _ 55 [some (.ref 0), some (.int (nI n)), some (.int q), some (.int what), some (.int which)] [] (mW (vQ v a lv q) (aQ a) b)
            obtain ⟨v0, hv0⟩ : ∃ z, z = vQ v a lv q := ⟨_, rfl⟩
            obtain ⟨a0, ha0⟩ : ∃ z, z = aQ a := ⟨_, rfl⟩
            rw [← hv0, ← ha0]
            have hK9 : K v0 a0 (a 54) (a 60) v0 a0 := by rw [hv0, ha0]; exact kQ
            have I0 : MI v0 a0 lv sp sl cr := by rw [hv0, ha0]; exact I
            have hw3 : wf3 a0 lv := by rw [ha0]; exact wf3_Q hwf
            have hlv0 := I0.1
            have e54 : a0 54 = a 54 := ha0 ▸ rfl
            have e35 : a0 35 = a 35 := ha0 ▸ rfl
            obtain ⟨-, -, hsp, -, -, hsl, -, hcr, -⟩ := id I0
            refine XG.blk tX9_then_ok 28 2 (pc' := 57) (pl' := [some (.ref 0), some (.int (nI n)), some (.int q), some (.int what), some (.int which)]) (st' := [(.int (nI n)), (.ref 0)]) (W1 := (mW v0 a0 b)) (bs := []) rfl rfl rfl ?_
            refine XG.callV0 eX9_then_57 kl_X9_415 (con_goes (d - 1) v0 v0 a0 a0 b (a 54) _ hK9 lv sp sl cr I0 hw3 n (by omega) (by omega)) (px_fitS (by omega)) rfl rfl rfl (Nat.le_of_ble_eq_true rfl) (fun r9 W9 hp9 hl9 => ?_)
            obtain ⟨v21, a21, w21, rfl, hK21, rfl⟩ := hp9
            have hlv21 := (hK21.MI I0).1
            refine XG.blk tX9_then_ok 31 1 (pc' := 61) (pl' := [some (.ref 0), some (.int (nI n)), some (.int q), some (.int what), some (.int which)]) (st' := [(.int what)]) (W1 := (mW v21 a21 b)) (bs := []) rfl rfl rfl ?_
            refine XG.tsw eX9_then_61 (td := 159) (by decide) (tg := [96, 107, 114, 122, 138]) (by decide) (by decide) (fun h61 => ?_) (fun j61 t61 hj61 h61 => ?_)
            · skip
              refine XG.blk tX9_then_ok 69 1 (pc' := 160) (pl' := [some (.ref 0), some (.int (nI n)), some (.int q), some (.int what), some (.int which)]) (st' := [(.ref 0)]) (W1 := (mW v21 a21 b)) (bs := []) rfl rfl rfl ?_
              refine XG.callV0 eX9_then_160 kl_X9_427 (con_leK (d - 1) v0 v21 a0 a21 b (snR v0 a0 lv sp sl cr (a 54) n) _ hK21 lv sp sl cr I0 hw3 (by omega)) (px_fitS (by omega)) rfl rfl rfl (Nat.le_of_ble_eq_true rfl) (fun r9 W9 hp9 hl9 => ?_)
              obtain ⟨v22, a22, rfl, hj22, rfl⟩ := hp9
              have hK22 := K.J hK21 hj22
              have hlv22 := (hK22.MI I0).1
              refine XS.iret eX9_then_163 rfl rfl ?_
              exact ⟨_, _, rfl, (Qs.c hv0 ha0).tr (Qs.K hK22), by unfold qThen; rw [← hv0, ← ha0]; rw [swF_out h61 rfl]⟩
            · have hl61 : j61 < 5 := (List.getElem?_eq_some_iff.mp hj61).1
              rcases (show j61 = 0 ∨ j61 = 1 ∨ j61 = 2 ∨ j61 = 3 ∨ j61 = 4 by omega) with rfl | rfl | rfl | rfl | rfl
              · cases hj61
                have hw9 : what = 0 := Int32.toInt_inj.mp h61
                obtain ⟨z, hz, rfl⟩ := px_vb_ex (hw0 hw9) (by omega)
                have q1 : ((nI 18) + (nI z)) = (nI (18 + z)) := px_eadd rfl rfl
                have q2 : (a21 55) = (snR v0 a0 lv sp sl cr (a 54) n) := hK21.2.2.1
                have q3 : (nI (18 + z)).toNatClampNeg = (18 + z) := nI_clamp (by omega)
                refine XG.blk tX9_then_ok 33 6 (pc' := 106) (pl' := [some (.ref 0), some (.int (nI n)), some (.int q), some (.int what), some (.int (nI z))]) (st' := [(.int ((a21 55) ((nI 18) + (nI z)).toNatClampNeg))]) (W1 := (mW v21 a21 b)) (bs := [px_vb ((nI 18) + (nI z)) 32]) rfl rfl (by (try simp only [q1, q2, q3]); exact (px_all (px_vbN (by omega) (by decide)) rfl)) ?_
                simp only [q1, q2, q3]
                refine XS.iret eX9_then_106 rfl rfl ?_
                exact ⟨_, _, rfl, (Qs.c hv0 ha0).tr (Qs.K hK21), by unfold qThen; rw [← hv0, ← ha0]; rw [swF_in 0 h61 rfl (Nat.le_of_ble_eq_true rfl), nI_clamp (by omega)]⟩
              · cases hj61
                refine XG.blk tX9_then_ok 40 2 (pc' := 110) (pl' := [some (.ref 0), some (.int (nI n)), some (.int q), some (.int what), some (.int which)]) (st' := [(.int which), (.ref 0)]) (W1 := (mW v21 a21 b)) (bs := []) rfl rfl rfl ?_
                refine XG.callV0 eX9_then_110 kl_X9_379 (con_bK (d - 1) v0 v21 a0 a21 b (snR v0 a0 lv sp sl cr (a 54) n) _ hK21 lv sp sl cr I0 hw3 which (by omega)) (px_fitS (by omega)) rfl rfl rfl (Nat.le_of_ble_eq_true rfl) (fun r9 W9 hp9 hl9 => ?_)
                obtain ⟨v23, a23, rfl, hj23, rfl⟩ := hp9
                have hK23 := K.J hK21 hj23
                have hlv23 := (hK23.MI I0).1
                refine XS.iret eX9_then_113 rfl rfl ?_
                exact ⟨_, _, rfl, (Qs.c hv0 ha0).tr (Qs.K hK23), by unfold qThen; rw [← hv0, ← ha0]; rw [swF_in 1 h61 rfl (Nat.le_of_ble_eq_true rfl)]⟩
              · cases hj61
                refine XG.blk tX9_then_ok 44 1 (pc' := 115) (pl' := [some (.ref 0), some (.int (nI n)), some (.int q), some (.int what), some (.int which)]) (st' := [(.ref 0)]) (W1 := (mW v21 a21 b)) (bs := []) rfl rfl rfl ?_
                refine XG.callV0 eX9_then_115 kl_X9_421 (con_abK (d - 1) v0 v21 a0 a21 b (snR v0 a0 lv sp sl cr (a 54) n) _ hK21 lv sp sl cr I0 (by omega)) (px_fitS (by omega)) rfl rfl rfl (Nat.le_of_ble_eq_true rfl) (fun r9 W9 hp9 hl9 => ?_)
                obtain ⟨rfl, rfl⟩ := hp9
                refine XG.callSp (r := some (.int (bitsN (itN (asleepF (snR v0 a0 lv sp sl cr (a 54) n) (a0 35 lv)) 0 sl)))) eX9_then_118 kl_X9_424 (con_bits (d - 1) (itN (asleepF (snR v0 a0 lv sp sl cr (a 54) n) (a0 35 lv)) 0 sl)) (px_fitS (by omega)) rfl rfl rfl rfl (Nat.le_of_ble_eq_true rfl) ?_
                refine XS.iret eX9_then_121 rfl rfl ?_
                exact ⟨_, _, rfl, (Qs.c hv0 ha0).tr (Qs.K hK21), by unfold qThen; rw [← hv0, ← ha0]; rw [swF_in 2 h61 rfl (Nat.le_of_ble_eq_true rfl), ← e35]⟩
              · cases hj61
                have q4 : (a21 55) = (snR v0 a0 lv sp sl cr (a 54) n) := hK21.2.2.1
                have q5 : (nI 31).toNatClampNeg = 31 := nI_clamp (by omega)
                have q6 : (a21 54) = (a0 54) := hK21.2.1 54 (by decide)
                refine XG.blk tX9_then_ok 48 9 (pc' := 137) (pl' := [some (.ref 0), some (.int (nI n)), some (.int q), some (.int what), some (.int which)]) (st' := [(.int (((a21 55) (nI 31).toNatClampNeg) - ((a21 54) (nI 31).toNatClampNeg)))]) (W1 := (mW v21 a21 b)) (bs := [px_vb (nI 31) 32, px_vb (nI 31) 32]) rfl rfl (by (try simp only [q4, q5, q6]); exact (px_all (px_vbN (by omega) (by decide)) (px_all (px_vbN (by omega) (by decide)) rfl))) ?_
                simp only [q4, q5, q6]
                refine XS.iret eX9_then_137 rfl rfl ?_
                exact ⟨_, _, rfl, (Qs.c hv0 ha0).tr (Qs.K hK21), by unfold qThen; rw [← hv0, ← ha0]; rw [swF_in 3 h61 rfl (Nat.le_of_ble_eq_true rfl), e54]⟩
              · cases hj61
                have q7 : (v21 18) = (nI lv) := hlv21
                have q8 : (a21 31) = (a0 31) := hK21.2.1 31 (by decide)
                have q9 : (nI lv).toNatClampNeg = lv := nI_clamp (by omega)
                have q10 : ((a0 31) lv) = (nI cr) := hcr
                refine XG.blk tX9_then_ok 58 8 (pc' := 152) (pl' := [some (.ref 0), some (.int (nI n)), some (.int q), some (.int what), some (.int which)]) (st' := [(.int (nI 10)), (.int ((a21 31) (v21 18).toNatClampNeg)), (.int (nI 18)), (.ref 0)]) (W1 := (mW v21 a21 b)) (bs := [px_vb (v21 18) 2]) rfl rfl (by (try simp only [q7, q8, q9, q10]); exact (px_all (px_vbN (by omega) (by decide)) rfl)) ?_
                simp only [q7, q8, q9, q10]
                refine XG.callV0 eX9_then_152 kl_X9_409 (con_btK (d - 1) v0 v21 a0 a21 b (snR v0 a0 lv sp sl cr (a 54) n) _ hK21 lv sp sl cr I0 18 cr (nI 10) (by omega)) (px_fitS (by omega)) rfl rfl rfl (Nat.le_of_ble_eq_true rfl) (fun r9 W9 hp9 hl9 => ?_)
                obtain ⟨rfl, rfl⟩ := hp9
                refine XG.callSp (r := some (.int (bitsN (itN (bitsF (snR v0 a0 lv sp sl cr (a 54) n) 18 (nI 10)) 0 cr)))) eX9_then_155 kl_X9_424 (con_bits (d - 1) (itN (bitsF (snR v0 a0 lv sp sl cr (a 54) n) 18 (nI 10)) 0 cr)) (px_fitS (by omega)) rfl rfl rfl rfl (Nat.le_of_ble_eq_true rfl) ?_
                refine XS.iret eX9_then_158 rfl rfl ?_
                exact ⟨_, _, rfl, (Qs.c hv0 ha0).tr (Qs.K hK21), by unfold qThen; rw [← hv0, ← ha0]; rw [swF_in 4 h61 rfl (Nat.le_of_ble_eq_true rfl)]⟩
          · skip
            have h31 := Decidable.not_not.mp h31
            refine XG.blk tX9_then_ok 17 2 (pc' := 37) (pl' := [some (.ref 0), some (.int (nI n)), some (.int q), some (.int what), some (.int which)]) (st' := [(.int which), (.ref 0)]) (W1 := (mW v a b)) (bs := []) rfl rfl rfl ?_
            refine XG.callV0 eX9_then_37 kl_X9_406 (con_isSpan (d - 1) v a b which lv sp sl cr I (by omega)) (px_fitS (by omega)) rfl rfl rfl (Nat.le_of_ble_eq_true rfl) (fun r9 W9 hp9 hl9 => ?_)
            obtain ⟨rfl, rfl⟩ := hp9
            refine XG.br eX9_then_40 (P := ¬ (if px_vb which sp = true then 1 else 0) = 0) (r := []) rfl (tgt := 46) (by decide) (fun h40 => ?_) (fun h40 => ?_)
            · skip
              refine XG.blk tX9_then_ok 23 1 (pc' := 47) (pl' := [some (.ref 0), some (.int (nI n)), some (.int q), some (.int what), some (.int which)]) (st' := [(.ref 0)]) (W1 := (mW v a b)) (bs := []) rfl rfl rfl ?_
              refine XG.callV0 eX9_then_47 kl_X9_400 (con_copQ (d - 1) v a b lv sp sl cr I) (px_fitS (by omega)) rfl rfl rfl (Nat.le_of_ble_eq_true rfl) (fun r9 W9 hp9 hl9 => ?_)
              obtain ⟨rfl, rfl⟩ := hp9
              refine XG.blk tX9_then_ok 25 3 (pc' := 55) (pl' := [some (.ref 0), some (.int (nI n)), some (.int q), some (.int what), some (.int which)]) (st' := []) (W1 := (mW (va_up (vQ v a lv 0) 57 q) (aQ a) b)) (bs := [(q == 0 || q == 1)]) rfl rfl (px_all ((by rcases hq with rfl | rfl <;> rfl)) rfl) ?_
              show XG _ _ _ _ 55 [some (.ref 0), some (.int (nI n)), some (.int q), some (.int what), some (.int which)] [] (mW (vQ v a lv q) (aQ a) b)
              obtain ⟨v0, hv0⟩ : ∃ z, z = vQ v a lv q := ⟨_, rfl⟩
              obtain ⟨a0, ha0⟩ : ∃ z, z = aQ a := ⟨_, rfl⟩
              rw [← hv0, ← ha0]
              have hK9 : K v0 a0 (a 54) (a 60) v0 a0 := by rw [hv0, ha0]; exact kQ
              have I0 : MI v0 a0 lv sp sl cr := by rw [hv0, ha0]; exact I
              have hw3 : wf3 a0 lv := by rw [ha0]; exact wf3_Q hwf
              have hlv0 := I0.1
              have e54 : a0 54 = a 54 := ha0 ▸ rfl
              have e35 : a0 35 = a 35 := ha0 ▸ rfl
              obtain ⟨-, -, hsp, -, -, hsl, -, hcr, -⟩ := id I0
              refine XG.blk tX9_then_ok 28 2 (pc' := 57) (pl' := [some (.ref 0), some (.int (nI n)), some (.int q), some (.int what), some (.int which)]) (st' := [(.int (nI n)), (.ref 0)]) (W1 := (mW v0 a0 b)) (bs := []) rfl rfl rfl ?_
              refine XG.callV0 eX9_then_57 kl_X9_415 (con_goes (d - 1) v0 v0 a0 a0 b (a 54) _ hK9 lv sp sl cr I0 hw3 n (by omega) (by omega)) (px_fitS (by omega)) rfl rfl rfl (Nat.le_of_ble_eq_true rfl) (fun r9 W9 hp9 hl9 => ?_)
              obtain ⟨v24, a24, w24, rfl, hK24, rfl⟩ := hp9
              have hlv24 := (hK24.MI I0).1
              refine XG.blk tX9_then_ok 31 1 (pc' := 61) (pl' := [some (.ref 0), some (.int (nI n)), some (.int q), some (.int what), some (.int which)]) (st' := [(.int what)]) (W1 := (mW v24 a24 b)) (bs := []) rfl rfl rfl ?_
              refine XG.tsw eX9_then_61 (td := 159) (by decide) (tg := [96, 107, 114, 122, 138]) (by decide) (by decide) (fun h61 => ?_) (fun j61 t61 hj61 h61 => ?_)
              · skip
                refine XG.blk tX9_then_ok 69 1 (pc' := 160) (pl' := [some (.ref 0), some (.int (nI n)), some (.int q), some (.int what), some (.int which)]) (st' := [(.ref 0)]) (W1 := (mW v24 a24 b)) (bs := []) rfl rfl rfl ?_
                refine XG.callV0 eX9_then_160 kl_X9_427 (con_leK (d - 1) v0 v24 a0 a24 b (snR v0 a0 lv sp sl cr (a 54) n) _ hK24 lv sp sl cr I0 hw3 (by omega)) (px_fitS (by omega)) rfl rfl rfl (Nat.le_of_ble_eq_true rfl) (fun r9 W9 hp9 hl9 => ?_)
                obtain ⟨v25, a25, rfl, hj25, rfl⟩ := hp9
                have hK25 := K.J hK24 hj25
                have hlv25 := (hK25.MI I0).1
                refine XS.iret eX9_then_163 rfl rfl ?_
                exact ⟨_, _, rfl, (Qs.c hv0 ha0).tr (Qs.K hK25), by unfold qThen; rw [← hv0, ← ha0]; rw [swF_out h61 rfl]⟩
              · have hl61 : j61 < 5 := (List.getElem?_eq_some_iff.mp hj61).1
                rcases (show j61 = 0 ∨ j61 = 1 ∨ j61 = 2 ∨ j61 = 3 ∨ j61 = 4 by omega) with rfl | rfl | rfl | rfl | rfl
                · cases hj61
                  have hw9 : what = 0 := Int32.toInt_inj.mp h61
                  obtain ⟨z, hz, rfl⟩ := px_vb_ex (hw0 hw9) (by omega)
                  have q11 : ((nI 18) + (nI z)) = (nI (18 + z)) := px_eadd rfl rfl
                  have q12 : (a24 55) = (snR v0 a0 lv sp sl cr (a 54) n) := hK24.2.2.1
                  have q13 : (nI (18 + z)).toNatClampNeg = (18 + z) := nI_clamp (by omega)
                  refine XG.blk tX9_then_ok 33 6 (pc' := 106) (pl' := [some (.ref 0), some (.int (nI n)), some (.int q), some (.int what), some (.int (nI z))]) (st' := [(.int ((a24 55) ((nI 18) + (nI z)).toNatClampNeg))]) (W1 := (mW v24 a24 b)) (bs := [px_vb ((nI 18) + (nI z)) 32]) rfl rfl (by (try simp only [q11, q12, q13]); exact (px_all (px_vbN (by omega) (by decide)) rfl)) ?_
                  simp only [q11, q12, q13]
                  refine XS.iret eX9_then_106 rfl rfl ?_
                  exact ⟨_, _, rfl, (Qs.c hv0 ha0).tr (Qs.K hK24), by unfold qThen; rw [← hv0, ← ha0]; rw [swF_in 0 h61 rfl (Nat.le_of_ble_eq_true rfl), nI_clamp (by omega)]⟩
                · cases hj61
                  refine XG.blk tX9_then_ok 40 2 (pc' := 110) (pl' := [some (.ref 0), some (.int (nI n)), some (.int q), some (.int what), some (.int which)]) (st' := [(.int which), (.ref 0)]) (W1 := (mW v24 a24 b)) (bs := []) rfl rfl rfl ?_
                  refine XG.callV0 eX9_then_110 kl_X9_379 (con_bK (d - 1) v0 v24 a0 a24 b (snR v0 a0 lv sp sl cr (a 54) n) _ hK24 lv sp sl cr I0 hw3 which (by omega)) (px_fitS (by omega)) rfl rfl rfl (Nat.le_of_ble_eq_true rfl) (fun r9 W9 hp9 hl9 => ?_)
                  obtain ⟨v26, a26, rfl, hj26, rfl⟩ := hp9
                  have hK26 := K.J hK24 hj26
                  have hlv26 := (hK26.MI I0).1
                  refine XS.iret eX9_then_113 rfl rfl ?_
                  exact ⟨_, _, rfl, (Qs.c hv0 ha0).tr (Qs.K hK26), by unfold qThen; rw [← hv0, ← ha0]; rw [swF_in 1 h61 rfl (Nat.le_of_ble_eq_true rfl)]⟩
                · cases hj61
                  refine XG.blk tX9_then_ok 44 1 (pc' := 115) (pl' := [some (.ref 0), some (.int (nI n)), some (.int q), some (.int what), some (.int which)]) (st' := [(.ref 0)]) (W1 := (mW v24 a24 b)) (bs := []) rfl rfl rfl ?_
                  refine XG.callV0 eX9_then_115 kl_X9_421 (con_abK (d - 1) v0 v24 a0 a24 b (snR v0 a0 lv sp sl cr (a 54) n) _ hK24 lv sp sl cr I0 (by omega)) (px_fitS (by omega)) rfl rfl rfl (Nat.le_of_ble_eq_true rfl) (fun r9 W9 hp9 hl9 => ?_)
                  obtain ⟨rfl, rfl⟩ := hp9
                  refine XG.callSp (r := some (.int (bitsN (itN (asleepF (snR v0 a0 lv sp sl cr (a 54) n) (a0 35 lv)) 0 sl)))) eX9_then_118 kl_X9_424 (con_bits (d - 1) (itN (asleepF (snR v0 a0 lv sp sl cr (a 54) n) (a0 35 lv)) 0 sl)) (px_fitS (by omega)) rfl rfl rfl rfl (Nat.le_of_ble_eq_true rfl) ?_
                  refine XS.iret eX9_then_121 rfl rfl ?_
                  exact ⟨_, _, rfl, (Qs.c hv0 ha0).tr (Qs.K hK24), by unfold qThen; rw [← hv0, ← ha0]; rw [swF_in 2 h61 rfl (Nat.le_of_ble_eq_true rfl), ← e35]⟩
                · cases hj61
                  have q14 : (a24 55) = (snR v0 a0 lv sp sl cr (a 54) n) := hK24.2.2.1
                  have q15 : (nI 31).toNatClampNeg = 31 := nI_clamp (by omega)
                  have q16 : (a24 54) = (a0 54) := hK24.2.1 54 (by decide)
                  refine XG.blk tX9_then_ok 48 9 (pc' := 137) (pl' := [some (.ref 0), some (.int (nI n)), some (.int q), some (.int what), some (.int which)]) (st' := [(.int (((a24 55) (nI 31).toNatClampNeg) - ((a24 54) (nI 31).toNatClampNeg)))]) (W1 := (mW v24 a24 b)) (bs := [px_vb (nI 31) 32, px_vb (nI 31) 32]) rfl rfl (by (try simp only [q14, q15, q16]); exact (px_all (px_vbN (by omega) (by decide)) (px_all (px_vbN (by omega) (by decide)) rfl))) ?_
                  simp only [q14, q15, q16]
                  refine XS.iret eX9_then_137 rfl rfl ?_
                  exact ⟨_, _, rfl, (Qs.c hv0 ha0).tr (Qs.K hK24), by unfold qThen; rw [← hv0, ← ha0]; rw [swF_in 3 h61 rfl (Nat.le_of_ble_eq_true rfl), e54]⟩
                · cases hj61
                  have q17 : (v24 18) = (nI lv) := hlv24
                  have q18 : (a24 31) = (a0 31) := hK24.2.1 31 (by decide)
                  have q19 : (nI lv).toNatClampNeg = lv := nI_clamp (by omega)
                  have q20 : ((a0 31) lv) = (nI cr) := hcr
                  refine XG.blk tX9_then_ok 58 8 (pc' := 152) (pl' := [some (.ref 0), some (.int (nI n)), some (.int q), some (.int what), some (.int which)]) (st' := [(.int (nI 10)), (.int ((a24 31) (v24 18).toNatClampNeg)), (.int (nI 18)), (.ref 0)]) (W1 := (mW v24 a24 b)) (bs := [px_vb (v24 18) 2]) rfl rfl (by (try simp only [q17, q18, q19, q20]); exact (px_all (px_vbN (by omega) (by decide)) rfl)) ?_
                  simp only [q17, q18, q19, q20]
                  refine XG.callV0 eX9_then_152 kl_X9_409 (con_btK (d - 1) v0 v24 a0 a24 b (snR v0 a0 lv sp sl cr (a 54) n) _ hK24 lv sp sl cr I0 18 cr (nI 10) (by omega)) (px_fitS (by omega)) rfl rfl rfl (Nat.le_of_ble_eq_true rfl) (fun r9 W9 hp9 hl9 => ?_)
                  obtain ⟨rfl, rfl⟩ := hp9
                  refine XG.callSp (r := some (.int (bitsN (itN (bitsF (snR v0 a0 lv sp sl cr (a 54) n) 18 (nI 10)) 0 cr)))) eX9_then_155 kl_X9_424 (con_bits (d - 1) (itN (bitsF (snR v0 a0 lv sp sl cr (a 54) n) 18 (nI 10)) 0 cr)) (px_fitS (by omega)) rfl rfl rfl rfl (Nat.le_of_ble_eq_true rfl) ?_
                  refine XS.iret eX9_then_158 rfl rfl ?_
                  exact ⟨_, _, rfl, (Qs.c hv0 ha0).tr (Qs.K hK24), by unfold qThen; rw [← hv0, ← ha0]; rw [swF_in 4 h61 rfl (Nat.le_of_ble_eq_true rfl)]⟩
            · exfalso
              have h40 := Decidable.not_not.mp h40
              first | exact (one_ne.mp h4) hn | exact (one_ne.mp h13) hwh | exact (one_ne.mp h26) (hw0 h17) | exact h40 (fun z => (one_ne.mp z) (hw1 h31)) | exact (one_ne.mp h40) (hw1 h31)
        · skip
          have h17 := Decidable.not_not.mp h17
          refine XG.blk tX9_then_ok 10 2 (pc' := 23) (pl' := [some (.ref 0), some (.int (nI n)), some (.int q), some (.int what), some (.int which)]) (st' := [(.int which), (.ref 0)]) (W1 := (mW v a b)) (bs := []) rfl rfl rfl ?_
          refine XG.callV0 eX9_then_23 kl_X9_403 (con_isCrosser (d - 1) v a b which lv sp sl cr I (by omega)) (px_fitS (by omega)) rfl rfl rfl (Nat.le_of_ble_eq_true rfl) (fun r9 W9 hp9 hl9 => ?_)
          obtain ⟨rfl, rfl⟩ := hp9
          refine XG.br eX9_then_26 (P := (if px_vb which cr = true then 1 else 0) = 0) (r := []) rfl (tgt := 43) (by decide) (fun h26 => ?_) (fun h26 => ?_)
          · exfalso
            first | exact (one_ne.mp h4) hn | exact (one_ne.mp h13) hwh | exact (one_ne.mp h26) (hw0 h17) | exact h40 (fun z => (one_ne.mp z) (hw1 h31)) | exact (one_ne.mp h40) (hw1 h31)
          · skip
            refine XG.blk tX9_then_ok 14 2 (pc' := 31) (pl' := [some (.ref 0), some (.int (nI n)), some (.int q), some (.int what), some (.int which)]) (st' := [(.int (nI 1)), (.int what)]) (W1 := (mW v a b)) (bs := []) rfl rfl rfl ?_
            refine XG.br eX9_then_31 (P := ¬ what = (nI 1)) (r := []) rfl (tgt := 46) (by decide) (fun h31 => ?_) (fun h31 => ?_)
            · skip
              refine XG.blk tX9_then_ok 23 1 (pc' := 47) (pl' := [some (.ref 0), some (.int (nI n)), some (.int q), some (.int what), some (.int which)]) (st' := [(.ref 0)]) (W1 := (mW v a b)) (bs := []) rfl rfl rfl ?_
              refine XG.callV0 eX9_then_47 kl_X9_400 (con_copQ (d - 1) v a b lv sp sl cr I) (px_fitS (by omega)) rfl rfl rfl (Nat.le_of_ble_eq_true rfl) (fun r9 W9 hp9 hl9 => ?_)
              obtain ⟨rfl, rfl⟩ := hp9
              refine XG.blk tX9_then_ok 25 3 (pc' := 55) (pl' := [some (.ref 0), some (.int (nI n)), some (.int q), some (.int what), some (.int which)]) (st' := []) (W1 := (mW (va_up (vQ v a lv 0) 57 q) (aQ a) b)) (bs := [(q == 0 || q == 1)]) rfl rfl (px_all ((by rcases hq with rfl | rfl <;> rfl)) rfl) ?_
              show XG _ _ _ _ 55 [some (.ref 0), some (.int (nI n)), some (.int q), some (.int what), some (.int which)] [] (mW (vQ v a lv q) (aQ a) b)
              obtain ⟨v0, hv0⟩ : ∃ z, z = vQ v a lv q := ⟨_, rfl⟩
              obtain ⟨a0, ha0⟩ : ∃ z, z = aQ a := ⟨_, rfl⟩
              rw [← hv0, ← ha0]
              have hK9 : K v0 a0 (a 54) (a 60) v0 a0 := by rw [hv0, ha0]; exact kQ
              have I0 : MI v0 a0 lv sp sl cr := by rw [hv0, ha0]; exact I
              have hw3 : wf3 a0 lv := by rw [ha0]; exact wf3_Q hwf
              have hlv0 := I0.1
              have e54 : a0 54 = a 54 := ha0 ▸ rfl
              have e35 : a0 35 = a 35 := ha0 ▸ rfl
              obtain ⟨-, -, hsp, -, -, hsl, -, hcr, -⟩ := id I0
              refine XG.blk tX9_then_ok 28 2 (pc' := 57) (pl' := [some (.ref 0), some (.int (nI n)), some (.int q), some (.int what), some (.int which)]) (st' := [(.int (nI n)), (.ref 0)]) (W1 := (mW v0 a0 b)) (bs := []) rfl rfl rfl ?_
              refine XG.callV0 eX9_then_57 kl_X9_415 (con_goes (d - 1) v0 v0 a0 a0 b (a 54) _ hK9 lv sp sl cr I0 hw3 n (by omega) (by omega)) (px_fitS (by omega)) rfl rfl rfl (Nat.le_of_ble_eq_true rfl) (fun r9 W9 hp9 hl9 => ?_)
              obtain ⟨v27, a27, w27, rfl, hK27, rfl⟩ := hp9
              have hlv27 := (hK27.MI I0).1
              refine XG.blk tX9_then_ok 31 1 (pc' := 61) (pl' := [some (.ref 0), some (.int (nI n)), some (.int q), some (.int what), some (.int which)]) (st' := [(.int what)]) (W1 := (mW v27 a27 b)) (bs := []) rfl rfl rfl ?_
              refine XG.tsw eX9_then_61 (td := 159) (by decide) (tg := [96, 107, 114, 122, 138]) (by decide) (by decide) (fun h61 => ?_) (fun j61 t61 hj61 h61 => ?_)
              · skip
                refine XG.blk tX9_then_ok 69 1 (pc' := 160) (pl' := [some (.ref 0), some (.int (nI n)), some (.int q), some (.int what), some (.int which)]) (st' := [(.ref 0)]) (W1 := (mW v27 a27 b)) (bs := []) rfl rfl rfl ?_
                refine XG.callV0 eX9_then_160 kl_X9_427 (con_leK (d - 1) v0 v27 a0 a27 b (snR v0 a0 lv sp sl cr (a 54) n) _ hK27 lv sp sl cr I0 hw3 (by omega)) (px_fitS (by omega)) rfl rfl rfl (Nat.le_of_ble_eq_true rfl) (fun r9 W9 hp9 hl9 => ?_)
                obtain ⟨v28, a28, rfl, hj28, rfl⟩ := hp9
                have hK28 := K.J hK27 hj28
                have hlv28 := (hK28.MI I0).1
                refine XS.iret eX9_then_163 rfl rfl ?_
                exact ⟨_, _, rfl, (Qs.c hv0 ha0).tr (Qs.K hK28), by unfold qThen; rw [← hv0, ← ha0]; rw [swF_out h61 rfl]⟩
              · have hl61 : j61 < 5 := (List.getElem?_eq_some_iff.mp hj61).1
                rcases (show j61 = 0 ∨ j61 = 1 ∨ j61 = 2 ∨ j61 = 3 ∨ j61 = 4 by omega) with rfl | rfl | rfl | rfl | rfl
                · cases hj61
                  have hw9 : what = 0 := Int32.toInt_inj.mp h61
                  obtain ⟨z, hz, rfl⟩ := px_vb_ex (hw0 hw9) (by omega)
                  have q21 : ((nI 18) + (nI z)) = (nI (18 + z)) := px_eadd rfl rfl
                  have q22 : (a27 55) = (snR v0 a0 lv sp sl cr (a 54) n) := hK27.2.2.1
                  have q23 : (nI (18 + z)).toNatClampNeg = (18 + z) := nI_clamp (by omega)
                  refine XG.blk tX9_then_ok 33 6 (pc' := 106) (pl' := [some (.ref 0), some (.int (nI n)), some (.int q), some (.int what), some (.int (nI z))]) (st' := [(.int ((a27 55) ((nI 18) + (nI z)).toNatClampNeg))]) (W1 := (mW v27 a27 b)) (bs := [px_vb ((nI 18) + (nI z)) 32]) rfl rfl (by (try simp only [q21, q22, q23]); exact (px_all (px_vbN (by omega) (by decide)) rfl)) ?_
                  simp only [q21, q22, q23]
                  refine XS.iret eX9_then_106 rfl rfl ?_
                  exact ⟨_, _, rfl, (Qs.c hv0 ha0).tr (Qs.K hK27), by unfold qThen; rw [← hv0, ← ha0]; rw [swF_in 0 h61 rfl (Nat.le_of_ble_eq_true rfl), nI_clamp (by omega)]⟩
                · cases hj61
                  refine XG.blk tX9_then_ok 40 2 (pc' := 110) (pl' := [some (.ref 0), some (.int (nI n)), some (.int q), some (.int what), some (.int which)]) (st' := [(.int which), (.ref 0)]) (W1 := (mW v27 a27 b)) (bs := []) rfl rfl rfl ?_
                  refine XG.callV0 eX9_then_110 kl_X9_379 (con_bK (d - 1) v0 v27 a0 a27 b (snR v0 a0 lv sp sl cr (a 54) n) _ hK27 lv sp sl cr I0 hw3 which (by omega)) (px_fitS (by omega)) rfl rfl rfl (Nat.le_of_ble_eq_true rfl) (fun r9 W9 hp9 hl9 => ?_)
                  obtain ⟨v29, a29, rfl, hj29, rfl⟩ := hp9
                  have hK29 := K.J hK27 hj29
                  have hlv29 := (hK29.MI I0).1
                  refine XS.iret eX9_then_113 rfl rfl ?_
                  exact ⟨_, _, rfl, (Qs.c hv0 ha0).tr (Qs.K hK29), by unfold qThen; rw [← hv0, ← ha0]; rw [swF_in 1 h61 rfl (Nat.le_of_ble_eq_true rfl)]⟩
                · cases hj61
                  refine XG.blk tX9_then_ok 44 1 (pc' := 115) (pl' := [some (.ref 0), some (.int (nI n)), some (.int q), some (.int what), some (.int which)]) (st' := [(.ref 0)]) (W1 := (mW v27 a27 b)) (bs := []) rfl rfl rfl ?_
                  refine XG.callV0 eX9_then_115 kl_X9_421 (con_abK (d - 1) v0 v27 a0 a27 b (snR v0 a0 lv sp sl cr (a 54) n) _ hK27 lv sp sl cr I0 (by omega)) (px_fitS (by omega)) rfl rfl rfl (Nat.le_of_ble_eq_true rfl) (fun r9 W9 hp9 hl9 => ?_)
                  obtain ⟨rfl, rfl⟩ := hp9
                  refine XG.callSp (r := some (.int (bitsN (itN (asleepF (snR v0 a0 lv sp sl cr (a 54) n) (a0 35 lv)) 0 sl)))) eX9_then_118 kl_X9_424 (con_bits (d - 1) (itN (asleepF (snR v0 a0 lv sp sl cr (a 54) n) (a0 35 lv)) 0 sl)) (px_fitS (by omega)) rfl rfl rfl rfl (Nat.le_of_ble_eq_true rfl) ?_
                  refine XS.iret eX9_then_121 rfl rfl ?_
                  exact ⟨_, _, rfl, (Qs.c hv0 ha0).tr (Qs.K hK27), by unfold qThen; rw [← hv0, ← ha0]; rw [swF_in 2 h61 rfl (Nat.le_of_ble_eq_true rfl), ← e35]⟩
                · cases hj61
                  have q24 : (a27 55) = (snR v0 a0 lv sp sl cr (a 54) n) := hK27.2.2.1
                  have q25 : (nI 31).toNatClampNeg = 31 := nI_clamp (by omega)
                  have q26 : (a27 54) = (a0 54) := hK27.2.1 54 (by decide)
                  refine XG.blk tX9_then_ok 48 9 (pc' := 137) (pl' := [some (.ref 0), some (.int (nI n)), some (.int q), some (.int what), some (.int which)]) (st' := [(.int (((a27 55) (nI 31).toNatClampNeg) - ((a27 54) (nI 31).toNatClampNeg)))]) (W1 := (mW v27 a27 b)) (bs := [px_vb (nI 31) 32, px_vb (nI 31) 32]) rfl rfl (by (try simp only [q24, q25, q26]); exact (px_all (px_vbN (by omega) (by decide)) (px_all (px_vbN (by omega) (by decide)) rfl))) ?_
                  simp only [q24, q25, q26]
                  refine XS.iret eX9_then_137 rfl rfl ?_
                  exact ⟨_, _, rfl, (Qs.c hv0 ha0).tr (Qs.K hK27), by unfold qThen; rw [← hv0, ← ha0]; rw [swF_in 3 h61 rfl (Nat.le_of_ble_eq_true rfl), e54]⟩
                · cases hj61
                  have q27 : (v27 18) = (nI lv) := hlv27
                  have q28 : (a27 31) = (a0 31) := hK27.2.1 31 (by decide)
                  have q29 : (nI lv).toNatClampNeg = lv := nI_clamp (by omega)
                  have q30 : ((a0 31) lv) = (nI cr) := hcr
                  refine XG.blk tX9_then_ok 58 8 (pc' := 152) (pl' := [some (.ref 0), some (.int (nI n)), some (.int q), some (.int what), some (.int which)]) (st' := [(.int (nI 10)), (.int ((a27 31) (v27 18).toNatClampNeg)), (.int (nI 18)), (.ref 0)]) (W1 := (mW v27 a27 b)) (bs := [px_vb (v27 18) 2]) rfl rfl (by (try simp only [q27, q28, q29, q30]); exact (px_all (px_vbN (by omega) (by decide)) rfl)) ?_
                  simp only [q27, q28, q29, q30]
                  refine XG.callV0 eX9_then_152 kl_X9_409 (con_btK (d - 1) v0 v27 a0 a27 b (snR v0 a0 lv sp sl cr (a 54) n) _ hK27 lv sp sl cr I0 18 cr (nI 10) (by omega)) (px_fitS (by omega)) rfl rfl rfl (Nat.le_of_ble_eq_true rfl) (fun r9 W9 hp9 hl9 => ?_)
                  obtain ⟨rfl, rfl⟩ := hp9
                  refine XG.callSp (r := some (.int (bitsN (itN (bitsF (snR v0 a0 lv sp sl cr (a 54) n) 18 (nI 10)) 0 cr)))) eX9_then_155 kl_X9_424 (con_bits (d - 1) (itN (bitsF (snR v0 a0 lv sp sl cr (a 54) n) 18 (nI 10)) 0 cr)) (px_fitS (by omega)) rfl rfl rfl rfl (Nat.le_of_ble_eq_true rfl) ?_
                  refine XS.iret eX9_then_158 rfl rfl ?_
                  exact ⟨_, _, rfl, (Qs.c hv0 ha0).tr (Qs.K hK27), by unfold qThen; rw [← hv0, ← ha0]; rw [swF_in 4 h61 rfl (Nat.le_of_ble_eq_true rfl)]⟩
            · skip
              have h31 := Decidable.not_not.mp h31
              refine XG.blk tX9_then_ok 17 2 (pc' := 37) (pl' := [some (.ref 0), some (.int (nI n)), some (.int q), some (.int what), some (.int which)]) (st' := [(.int which), (.ref 0)]) (W1 := (mW v a b)) (bs := []) rfl rfl rfl ?_
              refine XG.callV0 eX9_then_37 kl_X9_406 (con_isSpan (d - 1) v a b which lv sp sl cr I (by omega)) (px_fitS (by omega)) rfl rfl rfl (Nat.le_of_ble_eq_true rfl) (fun r9 W9 hp9 hl9 => ?_)
              obtain ⟨rfl, rfl⟩ := hp9
              refine XG.br eX9_then_40 (P := ¬ (if px_vb which sp = true then 1 else 0) = 0) (r := []) rfl (tgt := 46) (by decide) (fun h40 => ?_) (fun h40 => ?_)
              · skip
                refine XG.blk tX9_then_ok 23 1 (pc' := 47) (pl' := [some (.ref 0), some (.int (nI n)), some (.int q), some (.int what), some (.int which)]) (st' := [(.ref 0)]) (W1 := (mW v a b)) (bs := []) rfl rfl rfl ?_
                refine XG.callV0 eX9_then_47 kl_X9_400 (con_copQ (d - 1) v a b lv sp sl cr I) (px_fitS (by omega)) rfl rfl rfl (Nat.le_of_ble_eq_true rfl) (fun r9 W9 hp9 hl9 => ?_)
                obtain ⟨rfl, rfl⟩ := hp9
                refine XG.blk tX9_then_ok 25 3 (pc' := 55) (pl' := [some (.ref 0), some (.int (nI n)), some (.int q), some (.int what), some (.int which)]) (st' := []) (W1 := (mW (va_up (vQ v a lv 0) 57 q) (aQ a) b)) (bs := [(q == 0 || q == 1)]) rfl rfl (px_all ((by rcases hq with rfl | rfl <;> rfl)) rfl) ?_
                show XG _ _ _ _ 55 [some (.ref 0), some (.int (nI n)), some (.int q), some (.int what), some (.int which)] [] (mW (vQ v a lv q) (aQ a) b)
                obtain ⟨v0, hv0⟩ : ∃ z, z = vQ v a lv q := ⟨_, rfl⟩
                obtain ⟨a0, ha0⟩ : ∃ z, z = aQ a := ⟨_, rfl⟩
                rw [← hv0, ← ha0]
                have hK9 : K v0 a0 (a 54) (a 60) v0 a0 := by rw [hv0, ha0]; exact kQ
                have I0 : MI v0 a0 lv sp sl cr := by rw [hv0, ha0]; exact I
                have hw3 : wf3 a0 lv := by rw [ha0]; exact wf3_Q hwf
                have hlv0 := I0.1
                have e54 : a0 54 = a 54 := ha0 ▸ rfl
                have e35 : a0 35 = a 35 := ha0 ▸ rfl
                obtain ⟨-, -, hsp, -, -, hsl, -, hcr, -⟩ := id I0
                refine XG.blk tX9_then_ok 28 2 (pc' := 57) (pl' := [some (.ref 0), some (.int (nI n)), some (.int q), some (.int what), some (.int which)]) (st' := [(.int (nI n)), (.ref 0)]) (W1 := (mW v0 a0 b)) (bs := []) rfl rfl rfl ?_
                refine XG.callV0 eX9_then_57 kl_X9_415 (con_goes (d - 1) v0 v0 a0 a0 b (a 54) _ hK9 lv sp sl cr I0 hw3 n (by omega) (by omega)) (px_fitS (by omega)) rfl rfl rfl (Nat.le_of_ble_eq_true rfl) (fun r9 W9 hp9 hl9 => ?_)
                obtain ⟨v30, a30, w30, rfl, hK30, rfl⟩ := hp9
                have hlv30 := (hK30.MI I0).1
                refine XG.blk tX9_then_ok 31 1 (pc' := 61) (pl' := [some (.ref 0), some (.int (nI n)), some (.int q), some (.int what), some (.int which)]) (st' := [(.int what)]) (W1 := (mW v30 a30 b)) (bs := []) rfl rfl rfl ?_
                refine XG.tsw eX9_then_61 (td := 159) (by decide) (tg := [96, 107, 114, 122, 138]) (by decide) (by decide) (fun h61 => ?_) (fun j61 t61 hj61 h61 => ?_)
                · skip
                  refine XG.blk tX9_then_ok 69 1 (pc' := 160) (pl' := [some (.ref 0), some (.int (nI n)), some (.int q), some (.int what), some (.int which)]) (st' := [(.ref 0)]) (W1 := (mW v30 a30 b)) (bs := []) rfl rfl rfl ?_
                  refine XG.callV0 eX9_then_160 kl_X9_427 (con_leK (d - 1) v0 v30 a0 a30 b (snR v0 a0 lv sp sl cr (a 54) n) _ hK30 lv sp sl cr I0 hw3 (by omega)) (px_fitS (by omega)) rfl rfl rfl (Nat.le_of_ble_eq_true rfl) (fun r9 W9 hp9 hl9 => ?_)
                  obtain ⟨v31, a31, rfl, hj31, rfl⟩ := hp9
                  have hK31 := K.J hK30 hj31
                  have hlv31 := (hK31.MI I0).1
                  refine XS.iret eX9_then_163 rfl rfl ?_
                  exact ⟨_, _, rfl, (Qs.c hv0 ha0).tr (Qs.K hK31), by unfold qThen; rw [← hv0, ← ha0]; rw [swF_out h61 rfl]⟩
                · have hl61 : j61 < 5 := (List.getElem?_eq_some_iff.mp hj61).1
                  rcases (show j61 = 0 ∨ j61 = 1 ∨ j61 = 2 ∨ j61 = 3 ∨ j61 = 4 by omega) with rfl | rfl | rfl | rfl | rfl
                  · cases hj61
                    have hw9 : what = 0 := Int32.toInt_inj.mp h61
                    obtain ⟨z, hz, rfl⟩ := px_vb_ex (hw0 hw9) (by omega)
                    have q31 : ((nI 18) + (nI z)) = (nI (18 + z)) := px_eadd rfl rfl
                    have q32 : (a30 55) = (snR v0 a0 lv sp sl cr (a 54) n) := hK30.2.2.1
                    have q33 : (nI (18 + z)).toNatClampNeg = (18 + z) := nI_clamp (by omega)
                    refine XG.blk tX9_then_ok 33 6 (pc' := 106) (pl' := [some (.ref 0), some (.int (nI n)), some (.int q), some (.int what), some (.int (nI z))]) (st' := [(.int ((a30 55) ((nI 18) + (nI z)).toNatClampNeg))]) (W1 := (mW v30 a30 b)) (bs := [px_vb ((nI 18) + (nI z)) 32]) rfl rfl (by (try simp only [q31, q32, q33]); exact (px_all (px_vbN (by omega) (by decide)) rfl)) ?_
                    simp only [q31, q32, q33]
                    refine XS.iret eX9_then_106 rfl rfl ?_
                    exact ⟨_, _, rfl, (Qs.c hv0 ha0).tr (Qs.K hK30), by unfold qThen; rw [← hv0, ← ha0]; rw [swF_in 0 h61 rfl (Nat.le_of_ble_eq_true rfl), nI_clamp (by omega)]⟩
                  · cases hj61
                    refine XG.blk tX9_then_ok 40 2 (pc' := 110) (pl' := [some (.ref 0), some (.int (nI n)), some (.int q), some (.int what), some (.int which)]) (st' := [(.int which), (.ref 0)]) (W1 := (mW v30 a30 b)) (bs := []) rfl rfl rfl ?_
                    refine XG.callV0 eX9_then_110 kl_X9_379 (con_bK (d - 1) v0 v30 a0 a30 b (snR v0 a0 lv sp sl cr (a 54) n) _ hK30 lv sp sl cr I0 hw3 which (by omega)) (px_fitS (by omega)) rfl rfl rfl (Nat.le_of_ble_eq_true rfl) (fun r9 W9 hp9 hl9 => ?_)
                    obtain ⟨v32, a32, rfl, hj32, rfl⟩ := hp9
                    have hK32 := K.J hK30 hj32
                    have hlv32 := (hK32.MI I0).1
                    refine XS.iret eX9_then_113 rfl rfl ?_
                    exact ⟨_, _, rfl, (Qs.c hv0 ha0).tr (Qs.K hK32), by unfold qThen; rw [← hv0, ← ha0]; rw [swF_in 1 h61 rfl (Nat.le_of_ble_eq_true rfl)]⟩
                  · cases hj61
                    refine XG.blk tX9_then_ok 44 1 (pc' := 115) (pl' := [some (.ref 0), some (.int (nI n)), some (.int q), some (.int what), some (.int which)]) (st' := [(.ref 0)]) (W1 := (mW v30 a30 b)) (bs := []) rfl rfl rfl ?_
                    refine XG.callV0 eX9_then_115 kl_X9_421 (con_abK (d - 1) v0 v30 a0 a30 b (snR v0 a0 lv sp sl cr (a 54) n) _ hK30 lv sp sl cr I0 (by omega)) (px_fitS (by omega)) rfl rfl rfl (Nat.le_of_ble_eq_true rfl) (fun r9 W9 hp9 hl9 => ?_)
                    obtain ⟨rfl, rfl⟩ := hp9
                    refine XG.callSp (r := some (.int (bitsN (itN (asleepF (snR v0 a0 lv sp sl cr (a 54) n) (a0 35 lv)) 0 sl)))) eX9_then_118 kl_X9_424 (con_bits (d - 1) (itN (asleepF (snR v0 a0 lv sp sl cr (a 54) n) (a0 35 lv)) 0 sl)) (px_fitS (by omega)) rfl rfl rfl rfl (Nat.le_of_ble_eq_true rfl) ?_
                    refine XS.iret eX9_then_121 rfl rfl ?_
                    exact ⟨_, _, rfl, (Qs.c hv0 ha0).tr (Qs.K hK30), by unfold qThen; rw [← hv0, ← ha0]; rw [swF_in 2 h61 rfl (Nat.le_of_ble_eq_true rfl), ← e35]⟩
                  · cases hj61
                    have q34 : (a30 55) = (snR v0 a0 lv sp sl cr (a 54) n) := hK30.2.2.1
                    have q35 : (nI 31).toNatClampNeg = 31 := nI_clamp (by omega)
                    have q36 : (a30 54) = (a0 54) := hK30.2.1 54 (by decide)
                    refine XG.blk tX9_then_ok 48 9 (pc' := 137) (pl' := [some (.ref 0), some (.int (nI n)), some (.int q), some (.int what), some (.int which)]) (st' := [(.int (((a30 55) (nI 31).toNatClampNeg) - ((a30 54) (nI 31).toNatClampNeg)))]) (W1 := (mW v30 a30 b)) (bs := [px_vb (nI 31) 32, px_vb (nI 31) 32]) rfl rfl (by (try simp only [q34, q35, q36]); exact (px_all (px_vbN (by omega) (by decide)) (px_all (px_vbN (by omega) (by decide)) rfl))) ?_
                    simp only [q34, q35, q36]
                    refine XS.iret eX9_then_137 rfl rfl ?_
                    exact ⟨_, _, rfl, (Qs.c hv0 ha0).tr (Qs.K hK30), by unfold qThen; rw [← hv0, ← ha0]; rw [swF_in 3 h61 rfl (Nat.le_of_ble_eq_true rfl), e54]⟩
                  · cases hj61
                    have q37 : (v30 18) = (nI lv) := hlv30
                    have q38 : (a30 31) = (a0 31) := hK30.2.1 31 (by decide)
                    have q39 : (nI lv).toNatClampNeg = lv := nI_clamp (by omega)
                    have q40 : ((a0 31) lv) = (nI cr) := hcr
                    refine XG.blk tX9_then_ok 58 8 (pc' := 152) (pl' := [some (.ref 0), some (.int (nI n)), some (.int q), some (.int what), some (.int which)]) (st' := [(.int (nI 10)), (.int ((a30 31) (v30 18).toNatClampNeg)), (.int (nI 18)), (.ref 0)]) (W1 := (mW v30 a30 b)) (bs := [px_vb (v30 18) 2]) rfl rfl (by (try simp only [q37, q38, q39, q40]); exact (px_all (px_vbN (by omega) (by decide)) rfl)) ?_
                    simp only [q37, q38, q39, q40]
                    refine XG.callV0 eX9_then_152 kl_X9_409 (con_btK (d - 1) v0 v30 a0 a30 b (snR v0 a0 lv sp sl cr (a 54) n) _ hK30 lv sp sl cr I0 18 cr (nI 10) (by omega)) (px_fitS (by omega)) rfl rfl rfl (Nat.le_of_ble_eq_true rfl) (fun r9 W9 hp9 hl9 => ?_)
                    obtain ⟨rfl, rfl⟩ := hp9
                    refine XG.callSp (r := some (.int (bitsN (itN (bitsF (snR v0 a0 lv sp sl cr (a 54) n) 18 (nI 10)) 0 cr)))) eX9_then_155 kl_X9_424 (con_bits (d - 1) (itN (bitsF (snR v0 a0 lv sp sl cr (a 54) n) 18 (nI 10)) 0 cr)) (px_fitS (by omega)) rfl rfl rfl rfl (Nat.le_of_ble_eq_true rfl) ?_
                    refine XS.iret eX9_then_158 rfl rfl ?_
                    exact ⟨_, _, rfl, (Qs.c hv0 ha0).tr (Qs.K hK30), by unfold qThen; rw [← hv0, ← ha0]; rw [swF_in 4 h61 rfl (Nat.le_of_ble_eq_true rfl)]⟩
              · exfalso
                have h40 := Decidable.not_not.mp h40
                first | exact (one_ne.mp h4) hn | exact (one_ne.mp h13) hwh | exact (one_ne.mp h26) (hw0 h17) | exact h40 (fun z => (one_ne.mp z) (hw1 h31)) | exact (one_ne.mp h40) (hw1 h31)
  · simp only [if_neg hok]
    refine Con.of (by decide) (Nat.le_of_ble_eq_true rfl) ?_
    refine XG.blk tX9_then_ok 0 1 (pc' := 1) (pl' := [some (.ref 0), some (.int n), some (.int q), some (.int what), some (.int which)]) (st' := [(.int n)]) (W1 := (mW v a b)) (bs := []) rfl rfl rfl ?_
    refine XG.callSp (r := some (.int (if px_vb n 100 = true then 1 else 0))) eX9_then_1 kl_X9_418 (con_isLong (d - 1) n (by omega)) (px_fitS (by omega)) rfl rfl rfl rfl (Nat.le_of_ble_eq_true rfl) ?_
    refine XG.br eX9_then_4 (P := (if px_vb n 100 = true then 1 else 0) = 0) (r := []) rfl (tgt := 43) (by decide) (fun h4 => ?_) (fun h4 => ?_)
    · skip
      refine XG.blk tX9_then_ok 21 1 (pc' := 45) (pl' := [some (.ref 0), some (.int n), some (.int q), some (.int what), some (.int which)]) (st' := [(.int (-100))]) (W1 := (mW v a b)) (bs := []) rfl rfl rfl ?_
      refine XS.iret eX9_then_45 rfl rfl ?_
      exact ⟨_, _, rfl, Qs.rf, rfl⟩
    · skip
      refine XG.blk tX9_then_ok 3 3 (pc' := 10) (pl' := [some (.ref 0), some (.int n), some (.int q), some (.int what), some (.int which)]) (st' := [(.int (nI 5)), (.int (nI 0)), (.int what)]) (W1 := (mW v a b)) (bs := []) rfl rfl rfl ?_
      refine XG.callSp (r := some (.int (if (nI 0) ≤ what ∧ what ≤ (nI 5) then 1 else 0))) eX9_then_10 kl_X9_331 (con_in (d - 1) what (nI 0) (nI 5)) (px_fitS (by omega)) rfl rfl rfl rfl (Nat.le_of_ble_eq_true rfl) ?_
      refine XG.br eX9_then_13 (P := (if (nI 0) ≤ what ∧ what ≤ (nI 5) then 1 else 0) = 0) (r := []) rfl (tgt := 43) (by decide) (fun h13 => ?_) (fun h13 => ?_)
      · skip
        refine XG.blk tX9_then_ok 21 1 (pc' := 45) (pl' := [some (.ref 0), some (.int n), some (.int q), some (.int what), some (.int which)]) (st' := [(.int (-100))]) (W1 := (mW v a b)) (bs := []) rfl rfl rfl ?_
        refine XS.iret eX9_then_45 rfl rfl ?_
        exact ⟨_, _, rfl, Qs.rf, rfl⟩
      · skip
        refine XG.blk tX9_then_ok 8 1 (pc' := 17) (pl' := [some (.ref 0), some (.int n), some (.int q), some (.int what), some (.int which)]) (st' := [(.int what)]) (W1 := (mW v a b)) (bs := []) rfl rfl rfl ?_
        refine XG.br eX9_then_17 (P := ¬ what = 0) (r := []) rfl (tgt := 29) (by decide) (fun h17 => ?_) (fun h17 => ?_)
        · skip
          refine XG.blk tX9_then_ok 14 2 (pc' := 31) (pl' := [some (.ref 0), some (.int n), some (.int q), some (.int what), some (.int which)]) (st' := [(.int (nI 1)), (.int what)]) (W1 := (mW v a b)) (bs := []) rfl rfl rfl ?_
          refine XG.br eX9_then_31 (P := ¬ what = (nI 1)) (r := []) rfl (tgt := 46) (by decide) (fun h31 => ?_) (fun h31 => ?_)
          · skip
            exfalso
            exact hok ⟨vb_of h4, Decidable.not_not.mp (fun z => h13 (one_ne.mpr z)), fun e => absurd e h17, fun e => absurd e h31⟩
          · skip
            have h31 := Decidable.not_not.mp h31
            refine XG.blk tX9_then_ok 17 2 (pc' := 37) (pl' := [some (.ref 0), some (.int n), some (.int q), some (.int what), some (.int which)]) (st' := [(.int which), (.ref 0)]) (W1 := (mW v a b)) (bs := []) rfl rfl rfl ?_
            refine XG.callV0 eX9_then_37 kl_X9_406 (con_isSpan (d - 1) v a b which lv sp sl cr I (by omega)) (px_fitS (by omega)) rfl rfl rfl (Nat.le_of_ble_eq_true rfl) (fun r9 W9 hp9 hl9 => ?_)
            obtain ⟨rfl, rfl⟩ := hp9
            refine XG.br eX9_then_40 (P := ¬ (if px_vb which sp = true then 1 else 0) = 0) (r := []) rfl (tgt := 46) (by decide) (fun h40 => ?_) (fun h40 => ?_)
            · skip
              exfalso
              exact hok ⟨vb_of h4, Decidable.not_not.mp (fun z => h13 (one_ne.mpr z)), fun e => absurd e h17, fun _ => vb_of h40⟩
            · skip
              have h40 := Decidable.not_not.mp h40
              refine XG.blk tX9_then_ok 21 1 (pc' := 45) (pl' := [some (.ref 0), some (.int n), some (.int q), some (.int what), some (.int which)]) (st' := [(.int (-100))]) (W1 := (mW v a b)) (bs := []) rfl rfl rfl ?_
              refine XS.iret eX9_then_45 rfl rfl ?_
              exact ⟨_, _, rfl, Qs.rf, rfl⟩
        · skip
          have h17 := Decidable.not_not.mp h17
          refine XG.blk tX9_then_ok 10 2 (pc' := 23) (pl' := [some (.ref 0), some (.int n), some (.int q), some (.int what), some (.int which)]) (st' := [(.int which), (.ref 0)]) (W1 := (mW v a b)) (bs := []) rfl rfl rfl ?_
          refine XG.callV0 eX9_then_23 kl_X9_403 (con_isCrosser (d - 1) v a b which lv sp sl cr I (by omega)) (px_fitS (by omega)) rfl rfl rfl (Nat.le_of_ble_eq_true rfl) (fun r9 W9 hp9 hl9 => ?_)
          obtain ⟨rfl, rfl⟩ := hp9
          refine XG.br eX9_then_26 (P := (if px_vb which cr = true then 1 else 0) = 0) (r := []) rfl (tgt := 43) (by decide) (fun h26 => ?_) (fun h26 => ?_)
          · skip
            refine XG.blk tX9_then_ok 21 1 (pc' := 45) (pl' := [some (.ref 0), some (.int n), some (.int q), some (.int what), some (.int which)]) (st' := [(.int (-100))]) (W1 := (mW v a b)) (bs := []) rfl rfl rfl ?_
            refine XS.iret eX9_then_45 rfl rfl ?_
            exact ⟨_, _, rfl, Qs.rf, rfl⟩
          · skip
            refine XG.blk tX9_then_ok 14 2 (pc' := 31) (pl' := [some (.ref 0), some (.int n), some (.int q), some (.int what), some (.int which)]) (st' := [(.int (nI 1)), (.int what)]) (W1 := (mW v a b)) (bs := []) rfl rfl rfl ?_
            refine XG.br eX9_then_31 (P := ¬ what = (nI 1)) (r := []) rfl (tgt := 46) (by decide) (fun h31 => ?_) (fun h31 => ?_)
            · skip
              exfalso
              exact hok ⟨vb_of h4, Decidable.not_not.mp (fun z => h13 (one_ne.mpr z)), fun _ => vb_of h26, fun e => absurd e h31⟩
            · skip
              have h31 := Decidable.not_not.mp h31
              refine XG.blk tX9_then_ok 17 2 (pc' := 37) (pl' := [some (.ref 0), some (.int n), some (.int q), some (.int what), some (.int which)]) (st' := [(.int which), (.ref 0)]) (W1 := (mW v a b)) (bs := []) rfl rfl rfl ?_
              refine XG.callV0 eX9_then_37 kl_X9_406 (con_isSpan (d - 1) v a b which lv sp sl cr I (by omega)) (px_fitS (by omega)) rfl rfl rfl (Nat.le_of_ble_eq_true rfl) (fun r9 W9 hp9 hl9 => ?_)
              obtain ⟨rfl, rfl⟩ := hp9
              refine XG.br eX9_then_40 (P := ¬ (if px_vb which sp = true then 1 else 0) = 0) (r := []) rfl (tgt := 46) (by decide) (fun h40 => ?_) (fun h40 => ?_)
              · skip
                exfalso
                exact hok ⟨vb_of h4, Decidable.not_not.mp (fun z => h13 (one_ne.mpr z)), fun _ => vb_of h26, fun _ => vb_of h40⟩
              · skip
                have h40 := Decidable.not_not.mp h40
                refine XG.blk tX9_then_ok 21 1 (pc' := 45) (pl' := [some (.ref 0), some (.int n), some (.int q), some (.int what), some (.int which)]) (st' := [(.int (-100))]) (W1 := (mW v a b)) (bs := []) rfl rfl rfl ?_
                refine XS.iret eX9_then_45 rfl rfl ?_
                exact ⟨_, _, rfl, Qs.rf, rfl⟩
