/-! the reference: what is asked of it. A call copies the night into the row first -/
def vQ (v : Nat → Int32) (a : Nat → Nat → Int32) (lv : Nat) (q : Int32) : Nat → Int32 := va_up (va_up v 56 (a 37 lv)) 57 q
def aQ (a : Nat → Nat → Int32) : Nat → Nat → Int32 := va_up a 55 (a 54)
def qV : List Nat := [53, 56, 57, 63, 64, 66, 67, 68]
def qA : List Nat := [51, 52, 55, 58, 59, 60, 65, 72]
/-- but for what a question uses up nothing has changed -/
def Qs (v v' : Nat → Int32) (a a' : Nat → Nat → Int32) : Prop := chg qV v v' ∧ chg qA a a'
theorem Qs.rf {v : Nat → Int32} {a : Nat → Nat → Int32} : Qs v v a a := ⟨chg.rf, chg.rf⟩
theorem Qs.tr {v v' v'' : Nat → Int32} {a a' a'' : Nat → Nat → Int32} (h1 : Qs v v' a a') (h2 : Qs v' v'' a' a'') : Qs v v'' a a'' := ⟨h1.1.tr h2.1, h1.2.tr h2.2⟩
theorem Qs.c {v : Nat → Int32} {a : Nat → Nat → Int32} {lv : Nat} {q : Int32} {v0 : Nat → Int32} {a0 : Nat → Nat → Int32} (hv : v0 = vQ v a lv q) (ha : a0 = aQ a) : Qs v v0 a a0 := by
  subst hv; subst ha
  exact ⟨(chg.up (by decide)).tr (chg.up (by decide)), chg.up (by decide)⟩
theorem Qs.K {v0 v : Nat → Int32} {a0 a : Nat → Nat → Int32} {r w : Nat → Int32} (h : K v0 a0 r w v a) : Qs v0 v a0 a := ⟨h.1.mono (by decide), h.2.1.mono (by decide)⟩
theorem Qs.J {v0 v : Nat → Int32} {a0 a : Nat → Nat → Int32} (h : J v0 v a0 a) : Qs v0 v a0 a := ⟨h.1.mono (by decide), h.2.mono (by decide)⟩
theorem kQ {v : Nat → Int32} {a : Nat → Nat → Int32} {lv : Nat} {q : Int32} : K (vQ v a lv q) (aQ a) (a 54) (a 60) (vQ v a lv q) (aQ a) := ⟨chg.rf, chg.rf, rfl, rfl⟩
theorem wf3_Q {a : Nat → Nat → Int32} {lv : Nat} (h : wf3 a lv) : wf3 (aQ a) lv := fun k hk => wfL_chg (fun j hj => chg.up (S := [55]) (by decide) j (by revert j; decide)) (h k hk)
theorem con_copQ (d : Nat) (v : Nat → Int32) (a : Nat → Nat → Int32) (b : Nat → Nat → Int64) (lv sp sl cr : Nat) (I : MI v a lv sp sl cr) : Con mX9_copies d [.ref 0] (mW v a b) (fun r W' => W' = mW (vQ v a lv 0) (aQ a) b ∧ r = none) := con_copies' d v a b lv sp sl cr I
/-- a switch from 0 on -/
def swF (x : Int32) (fs : List Int32) (e : Int32) : Int32 := if px_vb x fs.length = true then fs.getD x.toNatClampNeg e else e
theorem swF_in {x : Int32} {fs : List Int32} {e y : Int32} (k : Nat) (h : x.toInt = (0 : Int) + (k : Int)) (hk : fs[k]? = some y) (hl : fs.length < 2 ^ 31) : swF x fs e = y := by
  have hlt := (List.getElem?_eq_some_iff.mp hk).1
  have hx : x = nI k := Int32.toInt_inj.mp (by rw [h, nI_toInt (by omega)]; omega)
  unfold swF
  rw [hx, if_pos (px_vbN hlt hl), nI_clamp (by omega), List.getD_eq_getElem?_getD, hk]
  rfl
theorem swF_out {x : Int32} {fs : List Int32} {e : Int32} {m : Int} (h : x.toInt < 0 ∨ m < x.toInt) (hm : m + 1 = (fs.length : Int)) : swF x fs e = e := by
  unfold swF
  rw [if_neg (by rw [px_vb_iff]; omega)]
theorem vb_of {x : Int32} {n : Nat} (h : ¬ (if px_vb x n = true then (1 : Int32) else 0) = 0) : px_vb x n = true := Decidable.not_not.mp (fun z => h (one_ne.mpr z))
def qSleeper (a : Nat → Nat → Int32) (lv sl cr : Nat) (x : Nat) (what : Int32) : Int32 := swF what [a 54 x, a 26 (6 * lv + x), a 27 (6 * lv + x), a 54 (12 + x), (if slp (a 54) (a 35 lv) x then 1 else 0), hN (aQ a) lv sl cr x] (-1)
def ansB (p : Int32) (n : Nat) (f : Nat → Int32) (e : Int32) : Int32 := if px_vb p n = true then f p.toNatClampNeg else e
set_option maxHeartbeats 400000 in
theorem con_sleeper (d : Nat) (v : Nat → Int32) (a : Nat → Nat → Int32) (b : Nat → Nat → Int64) (lv sp sl cr : Nat) (I : MI v a lv sp sl cr) (hwf : wf3 a lv) (p what : Int32) (hd : 6 ≤ d) : Con mX9_sleeper d [.ref 0, .int p, .int what] (mW v a b) (fun r W' => ∃ v' a', W' = mW v' a' b ∧ Qs v v' a a' ∧ r = some (.int (ansB p sl (fun x => qSleeper a lv sl cr x what) (-1)))) := by
  obtain ⟨hlv, hlv2, hsp, hsp1, hsp2, hsl, hsl2, hcr, hcr2⟩ := id I
  refine Con.of (by decide) (Nat.le_of_ble_eq_true rfl) ?_
  by_cases hp : px_vb p sl = true
  · obtain ⟨x, hx, rfl⟩ := px_vb_ex hp (by omega)
    have eA : ansB (nI x) sl (fun x => qSleeper a lv sl cr x what) (-1) = (fun x => qSleeper a lv sl cr x what) x := by unfold ansB; rw [if_pos hp, nI_clamp (by omega)]
    simp only [eA]
    refine XG.blk tX9_sleeper_ok 0 2 (pc' := 2) (pl' := [some (.ref 0), some (.int (nI x)), some (.int what)]) (st' := [(.int (nI x)), (.ref 0)]) (W1 := (mW v a b)) (bs := []) rfl rfl rfl ?_
    refine XG.callV0 eX9_sleeper_2 kl_X9_397 (con_isSleeper (d - 1) v a b (nI x) lv sp sl cr I (by omega)) (px_fitS (by omega)) rfl rfl rfl (Nat.le_of_ble_eq_true rfl) (fun r9 W9 hp9 hl9 => ?_)
    obtain ⟨rfl, rfl⟩ := hp9
    refine XG.br eX9_sleeper_5 (P := ¬ (if px_vb (nI x) sl = true then 1 else 0) = 0) (r := []) rfl (tgt := 10) (by decide) (fun h5 => ?_) (fun h5 => ?_)
    · skip
      refine XG.blk tX9_sleeper_ok 6 1 (pc' := 11) (pl' := [some (.ref 0), some (.int (nI x)), some (.int what)]) (st' := [(.ref 0)]) (W1 := (mW v a b)) (bs := []) rfl rfl rfl ?_
      refine XG.callV0 eX9_sleeper_11 kl_X9_400 (con_copQ (d - 1) v a b lv sp sl cr I) (px_fitS (by omega)) rfl rfl rfl (Nat.le_of_ble_eq_true rfl) (fun r9 W9 hp9 hl9 => ?_)
      obtain ⟨rfl, rfl⟩ := hp9
      obtain ⟨v0, hv0⟩ : ∃ z, z = vQ v a lv 0 := ⟨_, rfl⟩
      obtain ⟨a0, ha0⟩ : ∃ z, z = aQ a := ⟨_, rfl⟩
      rw [← hv0, ← ha0]
      have hK9 : K v0 a0 (a 54) (a 60) v0 a0 := by rw [hv0, ha0]; exact kQ
      have I0 : MI v0 a0 lv sp sl cr := by rw [hv0, ha0]; exact I
      have hw3 : wf3 a0 lv := by rw [ha0]; exact wf3_Q hwf
      have hlv0 := I0.1
      refine XG.blk tX9_sleeper_ok 8 1 (pc' := 15) (pl' := [some (.ref 0), some (.int (nI x)), some (.int what)]) (st' := [(.int what)]) (W1 := (mW v0 a0 b)) (bs := []) rfl rfl rfl ?_
      refine XG.tsw eX9_sleeper_15 (td := 119) (by decide) (tg := [52, 59, 74, 89, 99, 113]) (by decide) (by decide) (fun h15 => ?_) (fun j15 t15 hj15 h15 => ?_)
      · skip
        refine XG.blk tX9_sleeper_ok 54 1 (pc' := 120) (pl' := [some (.ref 0), some (.int (nI x)), some (.int what)]) (st' := [(.int (-1))]) (W1 := (mW v0 a0 b)) (bs := []) rfl rfl rfl ?_
        refine XS.iret eX9_sleeper_120 rfl rfl ?_
        exact ⟨_, _, rfl, Qs.c hv0 ha0, by unfold qSleeper; rw [swF_out h15 rfl]⟩
      · have hl15 : j15 < 6 := (List.getElem?_eq_some_iff.mp hj15).1
        rcases (show j15 = 0 ∨ j15 = 1 ∨ j15 = 2 ∨ j15 = 3 ∨ j15 = 4 ∨ j15 = 5 by omega) with rfl | rfl | rfl | rfl | rfl | rfl
        · cases hj15
          have q1 : (a0 55) = (a 54) := hK9.2.2.1
          have q2 : (nI x).toNatClampNeg = x := nI_clamp (by omega)
          refine XG.blk tX9_sleeper_ok 10 4 (pc' := 58) (pl' := [some (.ref 0), some (.int (nI x)), some (.int what)]) (st' := [(.int ((a0 55) (nI x).toNatClampNeg))]) (W1 := (mW v0 a0 b)) (bs := [px_vb (nI x) 32]) rfl rfl (by (try simp only [q1, q2]); exact (px_all (px_vbN (by omega) (by decide)) rfl)) ?_
          simp only [q1, q2]
          refine XS.iret eX9_sleeper_58 rfl rfl ?_
          exact ⟨_, _, rfl, Qs.c hv0 ha0, by unfold qSleeper; rw [swF_in 0 h15 rfl (Nat.le_of_ble_eq_true rfl)]⟩
        · cases hj15
          have q3 : (v0 18) = (nI lv) := hlv0
          have q4 : ((nI 6) * (nI lv)) = (nI (6 * lv)) := px_emul rfl rfl
          have q5 : ((nI (6 * lv)) + (nI x)) = (nI ((6 * lv) + x)) := px_eadd rfl rfl
          have q6 : (a0 26) = (a 26) := ha0 ▸ rfl
          have q7 : (nI ((6 * lv) + x)).toNatClampNeg = ((6 * lv) + x) := nI_clamp (by omega)
          refine XG.blk tX9_sleeper_ok 15 9 (pc' := 73) (pl' := [some (.ref 0), some (.int (nI x)), some (.int what)]) (st' := [(.int ((a0 26) (((nI 6) * (v0 18)) + (nI x)).toNatClampNeg))]) (W1 := (mW v0 a0 b)) (bs := [px_vb (((nI 6) * (v0 18)) + (nI x)) 12]) rfl rfl (by (try simp only [q3, q4, q5, q6, q7]); exact (px_all (px_vbN (by omega) (by decide)) rfl)) ?_
          simp only [q3, q4, q5, q6, q7]
          refine XS.iret eX9_sleeper_73 rfl rfl ?_
          exact ⟨_, _, rfl, Qs.c hv0 ha0, by unfold qSleeper; rw [swF_in 1 h15 rfl (Nat.le_of_ble_eq_true rfl)]⟩
        · cases hj15
          have q8 : (v0 18) = (nI lv) := hlv0
          have q9 : ((nI 6) * (nI lv)) = (nI (6 * lv)) := px_emul rfl rfl
          have q10 : ((nI (6 * lv)) + (nI x)) = (nI ((6 * lv) + x)) := px_eadd rfl rfl
          have q11 : (a0 27) = (a 27) := ha0 ▸ rfl
          have q12 : (nI ((6 * lv) + x)).toNatClampNeg = ((6 * lv) + x) := nI_clamp (by omega)
          refine XG.blk tX9_sleeper_ok 25 9 (pc' := 88) (pl' := [some (.ref 0), some (.int (nI x)), some (.int what)]) (st' := [(.int ((a0 27) (((nI 6) * (v0 18)) + (nI x)).toNatClampNeg))]) (W1 := (mW v0 a0 b)) (bs := [px_vb (((nI 6) * (v0 18)) + (nI x)) 12]) rfl rfl (by (try simp only [q8, q9, q10, q11, q12]); exact (px_all (px_vbN (by omega) (by decide)) rfl)) ?_
          simp only [q8, q9, q10, q11, q12]
          refine XS.iret eX9_sleeper_88 rfl rfl ?_
          exact ⟨_, _, rfl, Qs.c hv0 ha0, by unfold qSleeper; rw [swF_in 2 h15 rfl (Nat.le_of_ble_eq_true rfl)]⟩
        · cases hj15
          have q13 : ((nI 12) + (nI x)) = (nI (12 + x)) := px_eadd rfl rfl
          have q14 : (a0 55) = (a 54) := hK9.2.2.1
          have q15 : (nI (12 + x)).toNatClampNeg = (12 + x) := nI_clamp (by omega)
          refine XG.blk tX9_sleeper_ok 35 6 (pc' := 98) (pl' := [some (.ref 0), some (.int (nI x)), some (.int what)]) (st' := [(.int ((a0 55) ((nI 12) + (nI x)).toNatClampNeg))]) (W1 := (mW v0 a0 b)) (bs := [px_vb ((nI 12) + (nI x)) 32]) rfl rfl (by (try simp only [q13, q14, q15]); exact (px_all (px_vbN (by omega) (by decide)) rfl)) ?_
          simp only [q13, q14, q15]
          refine XS.iret eX9_sleeper_98 rfl rfl ?_
          exact ⟨_, _, rfl, Qs.c hv0 ha0, by unfold qSleeper; rw [swF_in 3 h15 rfl (Nat.le_of_ble_eq_true rfl)]⟩
        · cases hj15
          refine XG.blk tX9_sleeper_ok 42 2 (pc' := 101) (pl' := [some (.ref 0), some (.int (nI x)), some (.int what)]) (st' := [(.int (nI x)), (.ref 0)]) (W1 := (mW v0 a0 b)) (bs := []) rfl rfl rfl ?_
          refine XG.callV0 eX9_sleeper_101 kl_X9_348 (con_sK (d - 1) v0 v0 a0 a0 b _ _ hK9 lv sp sl cr I0 x (by omega)) (px_fitS (by omega)) rfl rfl rfl (Nat.le_of_ble_eq_true rfl) (fun r9 W9 hp9 hl9 => ?_)
          obtain ⟨rfl, rfl⟩ := hp9
          refine XG.br eX9_sleeper_104 (P := (if slp (a 54) (a0 35 lv) x then 1 else 0) = 0) (r := []) rfl (tgt := 111) (by decide) (fun h104 => ?_) (fun h104 => ?_)
          · skip
            refine XG.blk tX9_sleeper_ok 48 1 (pc' := 112) (pl' := [some (.ref 0), some (.int (nI x)), some (.int what)]) (st' := [(.int (nI 0))]) (W1 := (mW v0 a0 b)) (bs := []) rfl rfl rfl ?_
            refine XS.iret eX9_sleeper_112 rfl rfl ?_
            exact ⟨_, _, rfl, Qs.c hv0 ha0, by unfold qSleeper; rw [swF_in 4 h15 rfl (Nat.le_of_ble_eq_true rfl), if_neg (by rw [← show a0 35 = a 35 from ha0 ▸ rfl]; exact one_ne.mp h104)]; rfl⟩
          · skip
            refine XG.blk tX9_sleeper_ok 46 1 (pc' := 108) (pl' := [some (.ref 0), some (.int (nI x)), some (.int what)]) (st' := [(.int (nI 1))]) (W1 := (mW v0 a0 b)) (bs := []) rfl rfl rfl ?_
            refine XG.goto eX9_sleeper_108 (tgt := 112) (by decide) ?_
            refine XS.iret eX9_sleeper_112 rfl rfl ?_
            exact ⟨_, _, rfl, Qs.c hv0 ha0, by unfold qSleeper; rw [swF_in 4 h15 rfl (Nat.le_of_ble_eq_true rfl), if_pos (by rw [← show a0 35 = a 35 from ha0 ▸ rfl]; exact Decidable.not_not.mp (fun z => h104 (one_ne.mpr z)))]; rfl⟩
        · cases hj15
          refine XG.blk tX9_sleeper_ok 50 2 (pc' := 115) (pl' := [some (.ref 0), some (.int (nI x)), some (.int what)]) (st' := [(.int (nI x)), (.ref 0)]) (W1 := (mW v0 a0 b)) (bs := []) rfl rfl rfl ?_
          refine XG.callV0 eX9_sleeper_115 kl_X9_376 (con_holdsNow (d - 1) v0 v0 a0 a0 b J.rf lv sp sl cr I0 hw3 x (by omega) (by omega)) (px_fitS (by omega)) rfl rfl rfl (Nat.le_of_ble_eq_true rfl) (fun r9 W9 hp9 hl9 => ?_)
          obtain ⟨v1, a1, rfl, hJ1, rfl⟩ := hp9
          refine XS.iret eX9_sleeper_118 rfl rfl ?_
          exact ⟨_, _, rfl, (Qs.c hv0 ha0).tr (Qs.J hJ1), by unfold qSleeper; rw [swF_in 5 h15 rfl (Nat.le_of_ble_eq_true rfl), ← ha0]⟩
    · exfalso
      have h5 := Decidable.not_not.mp h5
      exact (one_ne.mp h5) hp
  · have eA : ansB p sl (fun x => qSleeper a lv sl cr x what) (-1) = (-1) := by unfold ansB; rw [if_neg hp]
    simp only [eA]
    refine XG.blk tX9_sleeper_ok 0 2 (pc' := 2) (pl' := [some (.ref 0), some (.int p), some (.int what)]) (st' := [(.int p), (.ref 0)]) (W1 := (mW v a b)) (bs := []) rfl rfl rfl ?_
    refine XG.callV0 eX9_sleeper_2 kl_X9_397 (con_isSleeper (d - 1) v a b p lv sp sl cr I (by omega)) (px_fitS (by omega)) rfl rfl rfl (Nat.le_of_ble_eq_true rfl) (fun r9 W9 hp9 hl9 => ?_)
    obtain ⟨rfl, rfl⟩ := hp9
    refine XG.br eX9_sleeper_5 (P := ¬ (if px_vb p sl = true then 1 else 0) = 0) (r := []) rfl (tgt := 10) (by decide) (fun h5 => ?_) (fun h5 => ?_)
    · exfalso
      exact absurd (vb_of h5) hp
    · skip
      have h5 := Decidable.not_not.mp h5
      refine XG.blk tX9_sleeper_ok 4 1 (pc' := 9) (pl' := [some (.ref 0), some (.int p), some (.int what)]) (st' := [(.int (-1))]) (W1 := (mW v a b)) (bs := []) rfl rfl rfl ?_
      refine XS.iret eX9_sleeper_9 rfl rfl ?_
      exact ⟨_, _, rfl, Qs.rf, rfl⟩
def qCrosser (a : Nat → Nat → Int32) (lv : Nat) (x : Nat) (what : Int32) : Int32 := swF what [a 32 (5 * lv + x), a 33 (5 * lv + x), a 34 (5 * lv + x), a 54 (18 + x), a 54 (23 + x)] (-1)
set_option maxHeartbeats 400000 in
theorem con_crosser (d : Nat) (v : Nat → Int32) (a : Nat → Nat → Int32) (b : Nat → Nat → Int64) (lv sp sl cr : Nat) (I : MI v a lv sp sl cr) (hwf : wf3 a lv) (p what : Int32) (hd : 2 ≤ d) : Con mX9_crosser d [.ref 0, .int p, .int what] (mW v a b) (fun r W' => ∃ v' a', W' = mW v' a' b ∧ Qs v v' a a' ∧ r = some (.int (ansB p cr (fun x => qCrosser a lv x what) (-1)))) := by
  obtain ⟨hlv, hlv2, hsp, hsp1, hsp2, hsl, hsl2, hcr, hcr2⟩ := id I
  refine Con.of (by decide) (Nat.le_of_ble_eq_true rfl) ?_
  by_cases hp : px_vb p cr = true
  · obtain ⟨x, hx, rfl⟩ := px_vb_ex hp (by omega)
    have eA : ansB (nI x) cr (fun x => qCrosser a lv x what) (-1) = qCrosser a lv x what := by unfold ansB; rw [if_pos hp, nI_clamp (by omega)]
    simp only [eA]
    refine XG.blk tX9_crosser_ok 0 2 (pc' := 2) (pl' := [some (.ref 0), some (.int (nI x)), some (.int what)]) (st' := [(.int (nI x)), (.ref 0)]) (W1 := (mW v a b)) (bs := []) rfl rfl rfl ?_
    refine XG.callV0 eX9_crosser_2 kl_X9_403 (con_isCrosser (d - 1) v a b (nI x) lv sp sl cr I (by omega)) (px_fitS (by omega)) rfl rfl rfl (Nat.le_of_ble_eq_true rfl) (fun r9 W9 hp9 hl9 => ?_)
    obtain ⟨rfl, rfl⟩ := hp9
    refine XG.br eX9_crosser_5 (P := ¬ (if px_vb (nI x) cr = true then 1 else 0) = 0) (r := []) rfl (tgt := 10) (by decide) (fun h5 => ?_) (fun h5 => ?_)
    · skip
      refine XG.blk tX9_crosser_ok 6 1 (pc' := 11) (pl' := [some (.ref 0), some (.int (nI x)), some (.int what)]) (st' := [(.int what)]) (W1 := (mW v a b)) (bs := []) rfl rfl rfl ?_
      refine XG.tsw eX9_crosser_11 (td := 99) (by decide) (tg := [44, 58, 72, 86, 86]) (by decide) (by decide) (fun h11 => ?_) (fun j11 t11 hj11 h11 => ?_)
      · skip
        refine XG.blk tX9_crosser_ok 49 1 (pc' := 100) (pl' := [some (.ref 0), some (.int (nI x)), some (.int what)]) (st' := [(.int (-1))]) (W1 := (mW v a b)) (bs := []) rfl rfl rfl ?_
        refine XS.iret eX9_crosser_100 rfl rfl ?_
        exact ⟨_, _, rfl, Qs.rf, by unfold qCrosser; rw [swF_out h11 rfl]⟩
      · have hl11 : j11 < 5 := (List.getElem?_eq_some_iff.mp hj11).1
        rcases (show j11 = 0 ∨ j11 = 1 ∨ j11 = 2 ∨ j11 = 3 ∨ j11 = 4 by omega) with rfl | rfl | rfl | rfl | rfl
        · cases hj11
          have q1 : (v 18) = (nI lv) := hlv
          have q2 : ((nI 5) * (nI lv)) = (nI (5 * lv)) := px_emul rfl rfl
          have q3 : ((nI (5 * lv)) + (nI x)) = (nI ((5 * lv) + x)) := px_eadd rfl rfl
          have q4 : (nI ((5 * lv) + x)).toNatClampNeg = ((5 * lv) + x) := nI_clamp (by omega)
          refine XG.blk tX9_crosser_ok 8 9 (pc' := 57) (pl' := [some (.ref 0), some (.int (nI x)), some (.int what)]) (st' := [(.int ((a 32) (((nI 5) * (v 18)) + (nI x)).toNatClampNeg))]) (W1 := (mW v a b)) (bs := [px_vb (((nI 5) * (v 18)) + (nI x)) 10]) rfl rfl (by (try simp only [q1, q2, q3, q4]); exact (px_all (px_vbN (by omega) (by decide)) rfl)) ?_
          simp only [q1, q2, q3, q4]
          refine XS.iret eX9_crosser_57 rfl rfl ?_
          exact ⟨_, _, rfl, Qs.rf, by unfold qCrosser; rw [swF_in 0 h11 rfl (Nat.le_of_ble_eq_true rfl)]⟩
        · cases hj11
          have q5 : (v 18) = (nI lv) := hlv
          have q6 : ((nI 5) * (nI lv)) = (nI (5 * lv)) := px_emul rfl rfl
          have q7 : ((nI (5 * lv)) + (nI x)) = (nI ((5 * lv) + x)) := px_eadd rfl rfl
          have q8 : (nI ((5 * lv) + x)).toNatClampNeg = ((5 * lv) + x) := nI_clamp (by omega)
          refine XG.blk tX9_crosser_ok 18 9 (pc' := 71) (pl' := [some (.ref 0), some (.int (nI x)), some (.int what)]) (st' := [(.int ((a 33) (((nI 5) * (v 18)) + (nI x)).toNatClampNeg))]) (W1 := (mW v a b)) (bs := [px_vb (((nI 5) * (v 18)) + (nI x)) 10]) rfl rfl (by (try simp only [q5, q6, q7, q8]); exact (px_all (px_vbN (by omega) (by decide)) rfl)) ?_
          simp only [q5, q6, q7, q8]
          refine XS.iret eX9_crosser_71 rfl rfl ?_
          exact ⟨_, _, rfl, Qs.rf, by unfold qCrosser; rw [swF_in 1 h11 rfl (Nat.le_of_ble_eq_true rfl)]⟩
        · cases hj11
          have q9 : (v 18) = (nI lv) := hlv
          have q10 : ((nI 5) * (nI lv)) = (nI (5 * lv)) := px_emul rfl rfl
          have q11 : ((nI (5 * lv)) + (nI x)) = (nI ((5 * lv) + x)) := px_eadd rfl rfl
          have q12 : (nI ((5 * lv) + x)).toNatClampNeg = ((5 * lv) + x) := nI_clamp (by omega)
          refine XG.blk tX9_crosser_ok 28 9 (pc' := 85) (pl' := [some (.ref 0), some (.int (nI x)), some (.int what)]) (st' := [(.int ((a 34) (((nI 5) * (v 18)) + (nI x)).toNatClampNeg))]) (W1 := (mW v a b)) (bs := [px_vb (((nI 5) * (v 18)) + (nI x)) 10]) rfl rfl (by (try simp only [q9, q10, q11, q12]); exact (px_all (px_vbN (by omega) (by decide)) rfl)) ?_
          simp only [q9, q10, q11, q12]
          refine XS.iret eX9_crosser_85 rfl rfl ?_
          exact ⟨_, _, rfl, Qs.rf, by unfold qCrosser; rw [swF_in 2 h11 rfl (Nat.le_of_ble_eq_true rfl)]⟩
        · cases hj11
          have hw9 : what = nI 3 := Int32.toInt_inj.mp h11
          rw [hw9]
          have q13 : ((nI 5) * (nI 3)) = (nI (5 * 3)) := px_emul rfl rfl
          have q14 : ((nI 3) + (nI (5 * 3))) = (nI (3 + (5 * 3))) := px_eadd rfl rfl
          have q15 : ((nI (3 + (5 * 3))) + (nI x)) = (nI ((3 + (5 * 3)) + x)) := px_eadd rfl rfl
          have q16 : (nI ((3 + (5 * 3)) + x)).toNatClampNeg = ((3 + (5 * 3)) + x) := nI_clamp (by omega)
          refine XG.blk tX9_crosser_ok 38 10 (pc' := 98) (pl' := [some (.ref 0), some (.int (nI x)), some (.int (nI 3))]) (st' := [(.int ((a 54) (((nI 3) + ((nI 5) * (nI 3))) + (nI x)).toNatClampNeg))]) (W1 := (mW v a b)) (bs := [px_vb (((nI 3) + ((nI 5) * (nI 3))) + (nI x)) 32]) rfl rfl (by (try simp only [q13, q14, q15, q16]); exact (px_all (px_vbN (by omega) (by decide)) rfl)) ?_
          simp only [q13, q14, q15, q16]
          refine XS.iret eX9_crosser_98 rfl rfl ?_
          exact ⟨_, _, rfl, Qs.rf, by unfold qCrosser; rw [swF_in (x := nI 3) 3 (by decide) rfl (Nat.le_of_ble_eq_true rfl)] <;> rfl⟩
        · cases hj11
          have hw9 : what = nI 4 := Int32.toInt_inj.mp h11
          rw [hw9]
          have q17 : ((nI 5) * (nI 4)) = (nI (5 * 4)) := px_emul rfl rfl
          have q18 : ((nI 3) + (nI (5 * 4))) = (nI (3 + (5 * 4))) := px_eadd rfl rfl
          have q19 : ((nI (3 + (5 * 4))) + (nI x)) = (nI ((3 + (5 * 4)) + x)) := px_eadd rfl rfl
          have q20 : (nI ((3 + (5 * 4)) + x)).toNatClampNeg = ((3 + (5 * 4)) + x) := nI_clamp (by omega)
          refine XG.blk tX9_crosser_ok 38 10 (pc' := 98) (pl' := [some (.ref 0), some (.int (nI x)), some (.int (nI 4))]) (st' := [(.int ((a 54) (((nI 3) + ((nI 5) * (nI 4))) + (nI x)).toNatClampNeg))]) (W1 := (mW v a b)) (bs := [px_vb (((nI 3) + ((nI 5) * (nI 4))) + (nI x)) 32]) rfl rfl (by (try simp only [q17, q18, q19, q20]); exact (px_all (px_vbN (by omega) (by decide)) rfl)) ?_
          simp only [q17, q18, q19, q20]
          refine XS.iret eX9_crosser_98 rfl rfl ?_
          exact ⟨_, _, rfl, Qs.rf, by unfold qCrosser; rw [swF_in (x := nI 4) 4 (by decide) rfl (Nat.le_of_ble_eq_true rfl)] <;> rfl⟩
    · exfalso
      have h5 := Decidable.not_not.mp h5
      exact (one_ne.mp h5) hp
  · have eA : ansB p cr (fun x => qCrosser a lv x what) (-1) = -1 := by unfold ansB; rw [if_neg hp]
    simp only [eA]
    refine XG.blk tX9_crosser_ok 0 2 (pc' := 2) (pl' := [some (.ref 0), some (.int p), some (.int what)]) (st' := [(.int p), (.ref 0)]) (W1 := (mW v a b)) (bs := []) rfl rfl rfl ?_
    refine XG.callV0 eX9_crosser_2 kl_X9_403 (con_isCrosser (d - 1) v a b p lv sp sl cr I (by omega)) (px_fitS (by omega)) rfl rfl rfl (Nat.le_of_ble_eq_true rfl) (fun r9 W9 hp9 hl9 => ?_)
    obtain ⟨rfl, rfl⟩ := hp9
    refine XG.br eX9_crosser_5 (P := ¬ (if px_vb p cr = true then 1 else 0) = 0) (r := []) rfl (tgt := 10) (by decide) (fun h5 => ?_) (fun h5 => ?_)
    · exfalso
      exact absurd (vb_of h5) hp
    · skip
      have h5 := Decidable.not_not.mp h5
      refine XG.blk tX9_crosser_ok 4 1 (pc' := 9) (pl' := [some (.ref 0), some (.int p), some (.int what)]) (st' := [(.int (-1))]) (W1 := (mW v a b)) (bs := []) rfl rfl rfl ?_
      refine XS.iret eX9_crosser_9 rfl rfl ?_
      exact ⟨_, _, rfl, Qs.rf, rfl⟩
def qSpan (a : Nat → Nat → Int32) (lv sl cr : Nat) (x : Nat) (what : Int32) : Int32 := swF what [bears (aQ a) lv sl cr (nI x), itN (loadF (a 54) (a 32) lv (nI x)) 0 cr, itN (bitsF (a 54) 12 (nI x)) 0 sl, itN (bitsF (a 54) 18 (nI x)) 0 cr] (-1)
set_option maxHeartbeats 400000 in
theorem con_span (d : Nat) (v : Nat → Int32) (a : Nat → Nat → Int32) (b : Nat → Nat → Int64) (lv sp sl cr : Nat) (I : MI v a lv sp sl cr) (hwf : wf3 a lv) (p what : Int32) (hd : 6 ≤ d) : Con mX9_span d [.ref 0, .int p, .int what] (mW v a b) (fun r W' => ∃ v' a', W' = mW v' a' b ∧ Qs v v' a a' ∧ r = some (.int (ansB p sp (fun x => qSpan a lv sl cr x what) (-1)))) := by
  obtain ⟨hlv, hlv2, hsp, hsp1, hsp2, hsl, hsl2, hcr, hcr2⟩ := id I
  refine Con.of (by decide) (Nat.le_of_ble_eq_true rfl) ?_
  by_cases hp : px_vb p sp = true
  · obtain ⟨x, hx, rfl⟩ := px_vb_ex hp (by omega)
    have eA : ansB (nI x) sp (fun x => qSpan a lv sl cr x what) (-1) = (fun x => qSpan a lv sl cr x what) x := by unfold ansB; rw [if_pos hp, nI_clamp (by omega)]
    simp only [eA]
    refine XG.blk tX9_span_ok 0 2 (pc' := 2) (pl' := [some (.ref 0), some (.int (nI x)), some (.int what)]) (st' := [(.int (nI x)), (.ref 0)]) (W1 := (mW v a b)) (bs := []) rfl rfl rfl ?_
    refine XG.callV0 eX9_span_2 kl_X9_406 (con_isSpan (d - 1) v a b (nI x) lv sp sl cr I (by omega)) (px_fitS (by omega)) rfl rfl rfl (Nat.le_of_ble_eq_true rfl) (fun r9 W9 hp9 hl9 => ?_)
    obtain ⟨rfl, rfl⟩ := hp9
    refine XG.br eX9_span_5 (P := ¬ (if px_vb (nI x) sp = true then 1 else 0) = 0) (r := []) rfl (tgt := 10) (by decide) (fun h5 => ?_) (fun h5 => ?_)
    · skip
      refine XG.blk tX9_span_ok 6 1 (pc' := 11) (pl' := [some (.ref 0), some (.int (nI x)), some (.int what)]) (st' := [(.ref 0)]) (W1 := (mW v a b)) (bs := []) rfl rfl rfl ?_
      refine XG.callV0 eX9_span_11 kl_X9_400 (con_copQ (d - 1) v a b lv sp sl cr I) (px_fitS (by omega)) rfl rfl rfl (Nat.le_of_ble_eq_true rfl) (fun r9 W9 hp9 hl9 => ?_)
      obtain ⟨rfl, rfl⟩ := hp9
      obtain ⟨v0, hv0⟩ : ∃ z, z = vQ v a lv 0 := ⟨_, rfl⟩
      obtain ⟨a0, ha0⟩ : ∃ z, z = aQ a := ⟨_, rfl⟩
      rw [← hv0, ← ha0]
      have hK9 : K v0 a0 (a 54) (a 60) v0 a0 := by rw [hv0, ha0]; exact kQ
      have I0 : MI v0 a0 lv sp sl cr := by rw [hv0, ha0]; exact I
      have hw3 : wf3 a0 lv := by rw [ha0]; exact wf3_Q hwf
      have hlv0 := I0.1
      refine XG.blk tX9_span_ok 8 1 (pc' := 15) (pl' := [some (.ref 0), some (.int (nI x)), some (.int what)]) (st' := [(.int what)]) (W1 := (mW v0 a0 b)) (bs := []) rfl rfl rfl ?_
      refine XG.tsw eX9_span_15 (td := 90) (by decide) (tg := [44, 50, 56, 73]) (by decide) (by decide) (fun h15 => ?_) (fun j15 t15 hj15 h15 => ?_)
      · skip
        refine XG.blk tX9_span_ok 38 1 (pc' := 91) (pl' := [some (.ref 0), some (.int (nI x)), some (.int what)]) (st' := [(.int (-1))]) (W1 := (mW v0 a0 b)) (bs := []) rfl rfl rfl ?_
        refine XS.iret eX9_span_91 rfl rfl ?_
        exact ⟨_, _, rfl, Qs.c hv0 ha0, by unfold qSpan; rw [swF_out h15 rfl]⟩
      · have hl15 : j15 < 4 := (List.getElem?_eq_some_iff.mp hj15).1
        rcases (show j15 = 0 ∨ j15 = 1 ∨ j15 = 2 ∨ j15 = 3 by omega) with rfl | rfl | rfl | rfl
        · cases hj15
          refine XG.blk tX9_span_ok 10 2 (pc' := 46) (pl' := [some (.ref 0), some (.int (nI x)), some (.int what)]) (st' := [(.int (nI x)), (.ref 0)]) (W1 := (mW v0 a0 b)) (bs := []) rfl rfl rfl ?_
          refine XG.callV0 eX9_span_46 kl_X9_379 (con_bearsNow (d - 1) v0 v0 a0 a0 b J.rf lv sp sl cr I0 hw3 (nI x) (by omega)) (px_fitS (by omega)) rfl rfl rfl (Nat.le_of_ble_eq_true rfl) (fun r9 W9 hp9 hl9 => ?_)
          obtain ⟨v1, a1, rfl, hJ1, rfl⟩ := hp9
          refine XS.iret eX9_span_49 rfl rfl ?_
          exact ⟨_, _, rfl, (Qs.c hv0 ha0).tr (Qs.J hJ1), by unfold qSpan; rw [swF_in 0 h15 rfl (Nat.le_of_ble_eq_true rfl), ← ha0]⟩
        · cases hj15
          refine XG.blk tX9_span_ok 14 2 (pc' := 52) (pl' := [some (.ref 0), some (.int (nI x)), some (.int what)]) (st' := [(.int (nI x)), (.ref 0)]) (W1 := (mW v0 a0 b)) (bs := []) rfl rfl rfl ?_
          refine XG.callV0 eX9_span_52 kl_X9_354 (con_lK (d - 1) v0 v0 a0 a0 b _ _ hK9 lv sp sl cr I0 (nI x)) (px_fitS (by omega)) rfl rfl rfl (Nat.le_of_ble_eq_true rfl) (fun r9 W9 hp9 hl9 => ?_)
          obtain ⟨rfl, rfl⟩ := hp9
          refine XS.iret eX9_span_55 rfl rfl ?_
          exact ⟨_, _, rfl, Qs.c hv0 ha0, by unfold qSpan; rw [swF_in 1 h15 rfl (Nat.le_of_ble_eq_true rfl), show a 32 = a0 32 from ha0 ▸ rfl]⟩
        · cases hj15
          have q1 : (v0 18) = (nI lv) := hlv0
          have q2 : (a0 24) = (a 24) := ha0 ▸ rfl
          have q3 : (nI lv).toNatClampNeg = lv := nI_clamp (by omega)
          have q4 : ((a 24) lv) = (nI sl) := hsl
          refine XG.blk tX9_span_ok 18 8 (pc' := 69) (pl' := [some (.ref 0), some (.int (nI x)), some (.int what)]) (st' := [(.int (nI x)), (.int ((a0 24) (v0 18).toNatClampNeg)), (.int (nI 12)), (.ref 0)]) (W1 := (mW v0 a0 b)) (bs := [px_vb (v0 18) 2]) rfl rfl (by (try simp only [q1, q2, q3, q4]); exact (px_all (px_vbN (by omega) (by decide)) rfl)) ?_
          simp only [q1, q2, q3, q4]
          refine XG.callV0 eX9_span_69 kl_X9_409 (con_bitsOf (d - 1) v0 a0 b 12 sl (nI x) (by omega)) (px_fitS (by omega)) rfl rfl rfl (Nat.le_of_ble_eq_true rfl) (fun r9 W9 hp9 hl9 => ?_)
          obtain ⟨rfl, rfl⟩ := hp9
          refine XS.iret eX9_span_72 rfl rfl ?_
          exact ⟨_, _, rfl, Qs.c hv0 ha0, by unfold qSpan; rw [swF_in 2 h15 rfl (Nat.le_of_ble_eq_true rfl), show a 54 = a0 55 from ha0 ▸ rfl]⟩
        · cases hj15
          have q5 : (v0 18) = (nI lv) := hlv0
          have q6 : (a0 31) = (a 31) := ha0 ▸ rfl
          have q7 : (nI lv).toNatClampNeg = lv := nI_clamp (by omega)
          have q8 : ((a 31) lv) = (nI cr) := hcr
          refine XG.blk tX9_span_ok 28 8 (pc' := 86) (pl' := [some (.ref 0), some (.int (nI x)), some (.int what)]) (st' := [(.int (nI x)), (.int ((a0 31) (v0 18).toNatClampNeg)), (.int (nI 18)), (.ref 0)]) (W1 := (mW v0 a0 b)) (bs := [px_vb (v0 18) 2]) rfl rfl (by (try simp only [q5, q6, q7, q8]); exact (px_all (px_vbN (by omega) (by decide)) rfl)) ?_
          simp only [q5, q6, q7, q8]
          refine XG.callV0 eX9_span_86 kl_X9_409 (con_bitsOf (d - 1) v0 a0 b 18 cr (nI x) (by omega)) (px_fitS (by omega)) rfl rfl rfl (Nat.le_of_ble_eq_true rfl) (fun r9 W9 hp9 hl9 => ?_)
          obtain ⟨rfl, rfl⟩ := hp9
          refine XS.iret eX9_span_89 rfl rfl ?_
          exact ⟨_, _, rfl, Qs.c hv0 ha0, by unfold qSpan; rw [swF_in 3 h15 rfl (Nat.le_of_ble_eq_true rfl), show a 54 = a0 55 from ha0 ▸ rfl]⟩
    · exfalso
      have h5 := Decidable.not_not.mp h5
      exact (one_ne.mp h5) hp
  · have eA : ansB p sp (fun x => qSpan a lv sl cr x what) (-1) = (-1) := by unfold ansB; rw [if_neg hp]
    simp only [eA]
    refine XG.blk tX9_span_ok 0 2 (pc' := 2) (pl' := [some (.ref 0), some (.int p), some (.int what)]) (st' := [(.int p), (.ref 0)]) (W1 := (mW v a b)) (bs := []) rfl rfl rfl ?_
    refine XG.callV0 eX9_span_2 kl_X9_406 (con_isSpan (d - 1) v a b p lv sp sl cr I (by omega)) (px_fitS (by omega)) rfl rfl rfl (Nat.le_of_ble_eq_true rfl) (fun r9 W9 hp9 hl9 => ?_)
    obtain ⟨rfl, rfl⟩ := hp9
    refine XG.br eX9_span_5 (P := ¬ (if px_vb p sp = true then 1 else 0) = 0) (r := []) rfl (tgt := 10) (by decide) (fun h5 => ?_) (fun h5 => ?_)
    · exfalso
      exact absurd (vb_of h5) hp
    · skip
      have h5 := Decidable.not_not.mp h5
      refine XG.blk tX9_span_ok 4 1 (pc' := 9) (pl' := [some (.ref 0), some (.int p), some (.int what)]) (st' := [(.int (-1))]) (W1 := (mW v a b)) (bs := []) rfl rfl rfl ?_
      refine XS.iret eX9_span_9 rfl rfl ?_
      exact ⟨_, _, rfl, Qs.rf, rfl⟩
set_option maxHeartbeats 400000 in
theorem con_dreams (d : Nat) (v : Nat → Int32) (a : Nat → Nat → Int32) (b : Nat → Nat → Int64) (lv sp sl cr : Nat) (I : MI v a lv sp sl cr) (hwf : wf3 a lv) (p : Int32) (hd : 3 ≤ d) : Con mX9_dreams d [.ref 0, .int p] (mW v a b) (fun r W' => ∃ v' a', W' = mW v' a' b ∧ Qs v v' a a' ∧ r = some (.int (ansB p sp (fun x => itN (drO (a 54) (a 35 lv) (a 29) lv (nI x)) 0 sl) (-1)))) := by
  obtain ⟨hlv, hlv2, hsp, hsp1, hsp2, hsl, hsl2, hcr, hcr2⟩ := id I
  refine Con.of (by decide) (Nat.le_of_ble_eq_true rfl) ?_
  by_cases hp : px_vb p sp = true
  · obtain ⟨x, hx, rfl⟩ := px_vb_ex hp (by omega)
    have eA : ansB (nI x) sp (fun x => itN (drO (a 54) (a 35 lv) (a 29) lv (nI x)) 0 sl) (-1) = (fun x => itN (drO (a 54) (a 35 lv) (a 29) lv (nI x)) 0 sl) x := by unfold ansB; rw [if_pos hp, nI_clamp (by omega)]
    simp only [eA]
    refine XG.blk tX9_dreams_ok 0 2 (pc' := 2) (pl' := [some (.ref 0), some (.int (nI x))]) (st' := [(.int (nI x)), (.ref 0)]) (W1 := (mW v a b)) (bs := []) rfl rfl rfl ?_
    refine XG.callV0 eX9_dreams_2 kl_X9_406 (con_isSpan (d - 1) v a b (nI x) lv sp sl cr I (by omega)) (px_fitS (by omega)) rfl rfl rfl (Nat.le_of_ble_eq_true rfl) (fun r9 W9 hp9 hl9 => ?_)
    obtain ⟨rfl, rfl⟩ := hp9
    refine XG.br eX9_dreams_5 (P := ¬ (if px_vb (nI x) sp = true then 1 else 0) = 0) (r := []) rfl (tgt := 10) (by decide) (fun h5 => ?_) (fun h5 => ?_)
    · skip
      refine XG.blk tX9_dreams_ok 6 1 (pc' := 11) (pl' := [some (.ref 0), some (.int (nI x))]) (st' := [(.ref 0)]) (W1 := (mW v a b)) (bs := []) rfl rfl rfl ?_
      refine XG.callV0 eX9_dreams_11 kl_X9_400 (con_copQ (d - 1) v a b lv sp sl cr I) (px_fitS (by omega)) rfl rfl rfl (Nat.le_of_ble_eq_true rfl) (fun r9 W9 hp9 hl9 => ?_)
      obtain ⟨rfl, rfl⟩ := hp9
      obtain ⟨v0, hv0⟩ : ∃ z, z = vQ v a lv 0 := ⟨_, rfl⟩
      obtain ⟨a0, ha0⟩ : ∃ z, z = aQ a := ⟨_, rfl⟩
      rw [← hv0, ← ha0]
      have hK9 : K v0 a0 (a 54) (a 60) v0 a0 := by rw [hv0, ha0]; exact kQ
      have I0 : MI v0 a0 lv sp sl cr := by rw [hv0, ha0]; exact I
      have hw3 : wf3 a0 lv := by rw [ha0]; exact wf3_Q hwf
      have hlv0 := I0.1
      refine XG.blk tX9_dreams_ok 8 2 (pc' := 16) (pl' := [some (.ref 0), some (.int (nI x))]) (st' := [(.int (nI x)), (.ref 0)]) (W1 := (mW v0 a0 b)) (bs := []) rfl rfl rfl ?_
      refine XG.callV0 eX9_dreams_16 kl_X9_373 (con_dreamsOn (d - 1) v0 a0 b (nI x) _ _ _ _ I0 (by omega)) (px_fitS (by omega)) rfl rfl rfl (Nat.le_of_ble_eq_true rfl) (fun r9 W9 hp9 hl9 => ?_)
      obtain ⟨rfl, rfl⟩ := hp9
      refine XS.iret eX9_dreams_19 rfl rfl ?_
      exact ⟨_, _, rfl, Qs.c hv0 ha0, by rw [show a 54 = a0 55 from ha0 ▸ rfl, show a 35 = a0 35 from ha0 ▸ rfl, show a 29 = a0 29 from ha0 ▸ rfl]⟩
    · exfalso
      have h5 := Decidable.not_not.mp h5
      exact (one_ne.mp h5) hp
  · have eA : ansB p sp (fun x => itN (drO (a 54) (a 35 lv) (a 29) lv (nI x)) 0 sl) (-1) = (-1) := by unfold ansB; rw [if_neg hp]
    simp only [eA]
    refine XG.blk tX9_dreams_ok 0 2 (pc' := 2) (pl' := [some (.ref 0), some (.int p)]) (st' := [(.int p), (.ref 0)]) (W1 := (mW v a b)) (bs := []) rfl rfl rfl ?_
    refine XG.callV0 eX9_dreams_2 kl_X9_406 (con_isSpan (d - 1) v a b p lv sp sl cr I (by omega)) (px_fitS (by omega)) rfl rfl rfl (Nat.le_of_ble_eq_true rfl) (fun r9 W9 hp9 hl9 => ?_)
    obtain ⟨rfl, rfl⟩ := hp9
    refine XG.br eX9_dreams_5 (P := ¬ (if px_vb p sp = true then 1 else 0) = 0) (r := []) rfl (tgt := 10) (by decide) (fun h5 => ?_) (fun h5 => ?_)
    · exfalso
      exact absurd (vb_of h5) hp
    · skip
      have h5 := Decidable.not_not.mp h5
      refine XG.blk tX9_dreams_ok 4 1 (pc' := 9) (pl' := [some (.ref 0), some (.int p)]) (st' := [(.int (-1))]) (W1 := (mW v a b)) (bs := []) rfl rfl rfl ?_
      refine XS.iret eX9_dreams_9 rfl rfl ?_
      exact ⟨_, _, rfl, Qs.rf, rfl⟩
