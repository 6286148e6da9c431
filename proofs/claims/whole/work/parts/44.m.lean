/-! the reference: how soon, how late, what will be -/
/-- the first of n numbers from i on for which p holds -/
def findN (p : Nat → Bool) : Nat → Nat → Option Nat
  | 0, _ => none
  | n + 1, i => if p i = true then some i else findN p n (i + 1)
def ofF (o : Option Nat) (f : Nat → Int32) (e : Int32) : Int32 := match o with
  | some i => f i
  | none => e
theorem kR {v : Nat → Int32} {a : Nat → Nat → Int32} {lv : Nat} {q : Int32} {v0 : Nat → Int32} {a0 : Nat → Nat → Int32} (hv : v0 = vQ v a lv q) (ha : a0 = aQ a) (R : Nat → Int32) : K v0 a0 R (a 60) v0 (va_up a0 55 R) := by
  subst hv; subst ha; exact K.row kQ R
def snR (v0 : Nat → Int32) (a0 : Nat → Nat → Int32) (lv sp sl cr : Nat) (R : Nat → Int32) (i : Nat) : Nat → Int32 := itN (hoursF v0 a0 lv sp sl cr) R i
def snP (v0 : Nat → Int32) (a0 : Nat → Nat → Int32) (lv sp sl cr : Nat) (R : Nat → Int32) (x : Nat) : Nat → Bool := fun i => decide (snR v0 a0 lv sp sl cr R (i + 1) (18 + x) = nI 9)
def qSoon (v : Nat → Int32) (a : Nat → Nat → Int32) (lv sp sl cr x : Nat) : Int32 := if a 54 (18 + x) = -2 then ofF (findN (snP (vQ v a lv (nI 1)) (aQ a) lv sp sl cr (upd (a 54) (18 + x) (-3)) x) 99 0) (fun i => nI (1 + i)) (-2) else -2
set_option maxHeartbeats 400000 in
theorem con_soon (d : Nat) (v : Nat → Int32) (a : Nat → Nat → Int32) (b : Nat → Nat → Int64) (lv sp sl cr : Nat) (I : MI v a lv sp sl cr) (hwf : wf3 a lv) (p : Int32) (hd : 9 ≤ d) : Con mX9_soon d [.ref 0, .int p] (mW v a b) (fun r W' => ∃ v' a', W' = mW v' a' b ∧ Qs v v' a a' ∧ r = some (.int (ansB p cr (fun x => qSoon v a lv sp sl cr x) (-1)))) := by
  obtain ⟨hlv, hlv2, hsp, hsp1, hsp2, hsl, hsl2, hcr, hcr2⟩ := id I
  refine Con.of (by decide) (Nat.le_of_ble_eq_true rfl) ?_
  by_cases hp : px_vb p cr = true
  · obtain ⟨x, hx, rfl⟩ := px_vb_ex hp (by omega)
    have eA : ansB (nI x) cr (fun x => qSoon v a lv sp sl cr x) (-1) = qSoon v a lv sp sl cr x := by unfold ansB; rw [if_pos hp, nI_clamp (by omega)]
    simp only [eA]
    refine XG.blk tX9_soon_ok 0 2 (pc' := 2) (pl' := [some (.ref 0), some (.int (nI x)), none]) (st' := [(.int (nI x)), (.ref 0)]) (W1 := (mW v a b)) (bs := []) rfl rfl rfl ?_
    refine XG.callV0 eX9_soon_2 kl_X9_403 (con_isCrosser (d - 1) v a b (nI x) lv sp sl cr I (by omega)) (px_fitS (by omega)) rfl rfl rfl (Nat.le_of_ble_eq_true rfl) (fun r9 W9 hp9 hl9 => ?_)
    obtain ⟨rfl, rfl⟩ := hp9
    refine XG.br eX9_soon_5 (P := ¬ (if px_vb (nI x) cr = true then 1 else 0) = 0) (r := []) rfl (tgt := 10) (by decide) (fun h5 => ?_) (fun h5 => ?_)
    · skip
      have q1 : ((nI 18) + (nI x)) = (nI (18 + x)) := px_eadd rfl rfl
      have q2 : (nI (18 + x)).toNatClampNeg = (18 + x) := nI_clamp (by omega)
      refine XG.blk tX9_soon_ok 6 7 (pc' := 21) (pl' := [some (.ref 0), some (.int (nI x)), none]) (st' := [(.int (-2)), (.int ((a 54) ((nI 18) + (nI x)).toNatClampNeg))]) (W1 := (mW v a b)) (bs := [px_vb ((nI 18) + (nI x)) 32]) rfl rfl (by (try simp only [q1, q2]); exact (px_all (px_vbN (by omega) (by decide)) rfl)) ?_
      simp only [q1, q2]
      refine XG.br eX9_soon_21 (P := ((a 54) (18 + x)) = (-2)) (r := []) rfl (tgt := 27) (by decide) (fun h21 => ?_) (fun h21 => ?_)
      · skip
        refine XG.blk tX9_soon_ok 16 1 (pc' := 28) (pl' := [some (.ref 0), some (.int (nI x)), none]) (st' := [(.ref 0)]) (W1 := (mW v a b)) (bs := []) rfl rfl rfl ?_
        refine XG.callV0 eX9_soon_28 kl_X9_400 (con_copQ (d - 1) v a b lv sp sl cr I) (px_fitS (by omega)) rfl rfl rfl (Nat.le_of_ble_eq_true rfl) (fun r9 W9 hp9 hl9 => ?_)
        obtain ⟨rfl, rfl⟩ := hp9
        have q3 : ((nI 18) + (nI x)) = (nI (18 + x)) := px_eadd rfl rfl
        have q4 : ((aQ a) 55) = (a 54) := rfl
        have q5 : (nI (18 + x)).toNatClampNeg = (18 + x) := nI_clamp (by omega)
        refine XG.blk tX9_soon_ok 18 12 (pc' := 49) (pl' := [some (.ref 0), some (.int (nI x)), some (.int (nI 1))]) (st' := []) (W1 := (mW (va_up (vQ v a lv 0) 57 (nI 1)) (va_up (aQ a) 55 (upd ((aQ a) 55) ((nI 18) + (nI x)).toNatClampNeg (-3))) b)) (bs := [((nI 1) == 0 || (nI 1) == 1), px_vb ((nI 18) + (nI x)) 32]) rfl rfl (by (try simp only [q3, q4, q5]); exact (px_all (rfl) (px_all (px_vbN (by omega) (by decide)) rfl))) ?_
        simp only [q3, q4, q5]
        show XG _ _ _ _ 49 [some (.ref 0), some (.int (nI x)), some (.int (nI (1 + 0)))] [] (mW (vQ v a lv (nI 1)) (va_up (aQ a) 55 (upd (a 54) (18 + x) (-3))) b)
        obtain ⟨v0, hv0⟩ : ∃ z, z = vQ v a lv (nI 1) := ⟨_, rfl⟩
        obtain ⟨a0, ha0⟩ : ∃ z, z = aQ a := ⟨_, rfl⟩
        rw [← hv0, ← ha0]
        have hK9 := kR hv0 ha0 (upd (a 54) (18 + x) (-3))
        have I0 : MI v0 a0 lv sp sl cr := by rw [hv0, ha0]; exact I
        have hw3 : wf3 a0 lv := by rw [ha0]; exact wf3_Q hwf
        have hlv0 := I0.1
        have e54 : a0 54 = a 54 := ha0 ▸ rfl
        have e35 : a0 35 = a 35 := ha0 ▸ rfl
        obtain ⟨-, -, hsp, -, -, hsl, -, hcr, -⟩ := id I0
        obtain ⟨RS, hRS⟩ : ∃ z, z = findN (snP v0 a0 lv sp sl cr (upd (a 54) (18 + x) (-3)) x) 99 0 := ⟨_, rfl⟩
        have eQ : qSoon v a lv sp sl cr x = ofF RS (fun i => nI (1 + i)) (-2) := by unfold qSoon; rw [if_pos h21, hRS, hv0, ha0]
        refine px_for 99 (fun i => ∀ (w v9 : Nat → Int32) (a9 : Nat → Nat → Int32) (hK9 : K v0 a0 (snR v0 a0 lv sp sl cr (upd (a 54) (18 + x) (-3)) i) w v9 a9) (hr : findN (snP v0 a0 lv sp sl cr (upd (a 54) (18 + x) (-3)) x) (99 - i) i = RS), XG mX9_soon _ 0 0 49 [some (.ref 0), some (.int (nI x)), some (.int (nI (1 + i)))] [] (mW v9 a9 b)) ?_ ?_ 0 (by omega) _ _ _ hK9 hRS.symm
        · intro w v9 a9 hK9 hr
          have hlv9 := (hK9.MI I0).1
          refine XG.blk tX9_soon_ok 30 2 (pc' := 52) (pl' := [some (.ref 0), some (.int (nI x)), some (.int (nI (1 + 99)))]) (st' := [(.int (nI 99)), (.int (nI (1 + 99)))]) (W1 := (mW v9 a9 b)) (bs := []) rfl rfl rfl ?_
          refine XG.br eX9_soon_52 (P := (nI 99) < (nI (1 + 99))) (r := []) rfl (tgt := 81) (by decide) (fun h52 => ?_) (fun h52 => ?_)
          · skip
            have g52 : 99 < (1 + 99) := (nI_ltI (a := 99) (b := (1 + 99)) (by omega) (by omega)).mp h52
            refine XG.blk tX9_soon_ok 47 1 (pc' := 83) (pl' := [some (.ref 0), some (.int (nI x)), some (.int (nI (1 + 99)))]) (st' := [(.int (-2))]) (W1 := (mW v9 a9 b)) (bs := []) rfl rfl rfl ?_
            refine XS.iret eX9_soon_83 rfl rfl ?_
            exact ⟨_, _, rfl, (Qs.c hv0 ha0).tr (Qs.K hK9), by rw [eQ, ← hr] <;> rfl⟩
          · exfalso
            have g52 : ¬ 99 < (1 + 99) := (fun z => h52 ((nI_ltI (a := 99) (b := (1 + 99)) (by omega) (by omega)).mpr z))
            omega
        · intro i hi ihi w v9 a9 hK9 hr
          have hlv9 := (hK9.MI I0).1
          rw [show 99 - i = (99 - (i + 1)) + 1 by omega] at hr
          simp only [findN] at hr
          refine XG.blk tX9_soon_ok 30 2 (pc' := 52) (pl' := [some (.ref 0), some (.int (nI x)), some (.int (nI (1 + i)))]) (st' := [(.int (nI 99)), (.int (nI (1 + i)))]) (W1 := (mW v9 a9 b)) (bs := []) rfl rfl rfl ?_
          refine XG.br eX9_soon_52 (P := (nI 99) < (nI (1 + i))) (r := []) rfl (tgt := 81) (by decide) (fun h52 => ?_) (fun h52 => ?_)
          · exfalso
            have g52 : 99 < (1 + i) := (nI_ltI (a := 99) (b := (1 + i)) (by omega) (by omega)).mp h52
            omega
          · skip
            have g52 : ¬ 99 < (1 + i) := (fun z => h52 ((nI_ltI (a := 99) (b := (1 + i)) (by omega) (by omega)).mpr z))
            refine XG.blk tX9_soon_ok 33 1 (pc' := 56) (pl' := [some (.ref 0), some (.int (nI x)), some (.int (nI (1 + i)))]) (st' := [(.ref 0)]) (W1 := (mW v9 a9 b)) (bs := []) rfl rfl rfl ?_
            refine XG.callV0 eX9_soon_56 kl_X9_394 (con_hourGoes (d - 1) v0 v9 a0 a9 b (snR v0 a0 lv sp sl cr (upd (a 54) (18 + x) (-3)) i) _ hK9 lv sp sl cr I0 hw3 (by omega)) (px_fitS (by omega)) rfl rfl rfl (Nat.le_of_ble_eq_true rfl) (fun r9 W9 hp9 hl9 => ?_)
            obtain ⟨v21, a21, w21, rfl, hK21, rfl⟩ := hp9
            have hlv21 := (hK21.MI I0).1
            have q6 : ((nI 18) + (nI x)) = (nI (18 + x)) := px_eadd rfl rfl
            have q7 : (a21 55) = (hourF v0 a0 lv sp sl cr (snR v0 a0 lv sp sl cr (upd (a 54) (18 + x) (-3)) i)) := hK21.2.2.1
            have q8 : (nI (18 + x)).toNatClampNeg = (18 + x) := nI_clamp (by omega)
            refine XG.blk tX9_soon_ok 35 7 (pc' := 70) (pl' := [some (.ref 0), some (.int (nI x)), some (.int (nI (1 + i)))]) (st' := [(.int (nI 9)), (.int ((a21 55) ((nI 18) + (nI x)).toNatClampNeg))]) (W1 := (mW v21 a21 b)) (bs := [px_vb ((nI 18) + (nI x)) 32]) rfl rfl (by (try simp only [q6, q7, q8]); exact (px_all (px_vbN (by omega) (by decide)) rfl)) ?_
            simp only [q6, q7, q8]
            refine XG.br eX9_soon_70 (P := ¬ ((hourF v0 a0 lv sp sl cr (snR v0 a0 lv sp sl cr (upd (a 54) (18 + x) (-3)) i)) (18 + x)) = (nI 9)) (r := []) rfl (tgt := 75) (by decide) (fun h70 => ?_) (fun h70 => ?_)
            · skip
              have q9 : ((nI (1 + i)) + (nI 1)) = (nI ((1 + i) + 1)) := px_eadd rfl rfl
              refine XG.blk tX9_soon_ok 45 1 (pc' := 78) (pl' := [some (.ref 0), some (.int (nI x)), some (.int ((nI (1 + i)) + (nI 1)))]) (st' := []) (W1 := (mW v21 a21 b)) (bs := []) rfl rfl rfl ?_
              simp only [q9]
              refine XG.goto eX9_soon_78 (tgt := 49) (by decide) ?_
              rw [if_neg (show ¬ (snP v0 a0 lv sp sl cr (upd (a 54) (18 + x) (-3)) x) i = true from fun z => h70 (of_decide_eq_true z))] at hr
              exact ihi _ v21 a21 hK21 hr
            · skip
              have h70 := Decidable.not_not.mp h70
              refine XG.blk tX9_soon_ok 43 1 (pc' := 74) (pl' := [some (.ref 0), some (.int (nI x)), some (.int (nI (1 + i)))]) (st' := [(.int (nI (1 + i)))]) (W1 := (mW v21 a21 b)) (bs := []) rfl rfl rfl ?_
              refine XS.iret eX9_soon_74 rfl rfl ?_
              exact ⟨_, _, rfl, (Qs.c hv0 ha0).tr (Qs.K hK21), by rw [if_pos (show (snP v0 a0 lv sp sl cr (upd (a 54) (18 + x) (-3)) x) i = true from decide_eq_true h70)] at hr; rw [eQ, ← hr] <;> rfl⟩
      · skip
        refine XG.blk tX9_soon_ok 14 1 (pc' := 26) (pl' := [some (.ref 0), some (.int (nI x)), none]) (st' := [(.int (-2))]) (W1 := (mW v a b)) (bs := []) rfl rfl rfl ?_
        refine XS.iret eX9_soon_26 rfl rfl ?_
        exact ⟨_, _, rfl, Qs.rf, by unfold qSoon; rw [if_neg h21]⟩
    · exfalso
      have h5 := Decidable.not_not.mp h5
      exact (one_ne.mp h5) hp
  · have eA : ansB p cr (fun x => qSoon v a lv sp sl cr x) (-1) = -1 := by unfold ansB; rw [if_neg hp]
    simp only [eA]
    refine XG.blk tX9_soon_ok 0 2 (pc' := 2) (pl' := [some (.ref 0), some (.int p), none]) (st' := [(.int p), (.ref 0)]) (W1 := (mW v a b)) (bs := []) rfl rfl rfl ?_
    refine XG.callV0 eX9_soon_2 kl_X9_403 (con_isCrosser (d - 1) v a b p lv sp sl cr I (by omega)) (px_fitS (by omega)) rfl rfl rfl (Nat.le_of_ble_eq_true rfl) (fun r9 W9 hp9 hl9 => ?_)
    obtain ⟨rfl, rfl⟩ := hp9
    refine XG.br eX9_soon_5 (P := ¬ (if px_vb p cr = true then 1 else 0) = 0) (r := []) rfl (tgt := 10) (by decide) (fun h5 => ?_) (fun h5 => ?_)
    · exfalso
      exact absurd (vb_of h5) hp
    · skip
      have h5 := Decidable.not_not.mp h5
      refine XG.blk tX9_soon_ok 4 1 (pc' := 9) (pl' := [some (.ref 0), some (.int p), none]) (st' := [(.int (-1))]) (W1 := (mW v a b)) (bs := []) rfl rfl rfl ?_
      refine XS.iret eX9_soon_9 rfl rfl ?_
      exact ⟨_, _, rfl, Qs.rf, rfl⟩
