/-! the reference: a better row; year -/
theorem px_Q_mono {D : va_G} {cA : FieldType → ClassId} {ad : Nat → Nat} {n0 : Nat} {A : Nat → Prop} {post post' : Option Value → px_W → Prop} (h : ∀ r W', post r W' → post' r W') {x : Array Value} {st : State} {oc : Outcome} {t : State} (hq : px_Q D cA ad n0 A post x st oc t) : px_Q D cA ad n0 A post' x st oc t := by
  obtain ⟨r, W', h1, h2⟩ := hq
  exact ⟨r, W', h r W' h1, h2⟩
theorem Con.mono {M : px_M} {d : Nat} {av : List Value} {W0 : px_W} {post post' : Option Value → px_W → Prop} (hc : Con M d av W0 post) (h : ∀ r W', post r W' → post' r W') : Con M d av W0 post' := by
  intro l D cA ad sz
  have h1 := hc l D cA ad sz
  unfold Met at h1 ⊢
  exact MetFree.mono h1 (fun _ _ hp => hp) (fun _ _ _ _ _ hp => hp) (fun _ _ _ _ _ hq => ⟨px_Q_mono h hq.1, hq.2⟩)
theorem con_leQ (d : Nat) (v v9 : Nat → Int32) (a a9 : Nat → Nat → Int32) (b : Nat → Nat → Int64) (hQ : Qs v v9 a a9) (q : Int32) (R : Nat → Int32) (lv sp sl cr : Nat) (I : MI v a lv sp sl cr) (hwf : wf3 a lv) (hd : 6 ≤ d) : Con mX9_leastNow d [.ref 0] (mW (vQ v9 a9 lv q) (va_up (aQ a9) 55 R) b) (fun z W' => ∃ v' a', W' = mW v' a' b ∧ Qs v v' a a' ∧ z = some (.int (lR (aQ a) lv sp sl cr R))) := by
  have hK := kR (v := v9) (a := a9) (lv := lv) (q := q) rfl rfl R
  have I9 : MI (vQ v9 a9 lv q) (aQ a9) lv sp sl cr := hQ.MI I
  have h1 := con_leK d _ _ _ _ b _ _ hK lv sp sl cr I9 (wf3_Q (hQ.w3 hwf)) hd
  have e1 : lR (aQ a9) lv sp sl cr R = lR (aQ a) lv sp sl cr R := least_chg (relT_S hQ.rel R) lv sp sl cr
  rw [e1] at h1
  refine h1.mono (fun r W' hp => ?_)
  obtain ⟨v', a', rfl, hj, rfl⟩ := hp
  exact ⟨v', a', rfl, hQ.tr ((Qs.c rfl rfl).row.tr (Qs.J hj)), rfl⟩
def btI (a : Nat → Nat → Int32) (lv sp sl cr x : Nat) : Nat → Int32 × Int32 × Int32 → Int32 × Int32 × Int32 := fun p t => if t.1 < lR (aQ a) lv sp sl cr (upd (a 54) (12 + x) (nI p)) then (lR (aQ a) lv sp sl cr (upd (a 54) (12 + x) (nI p)), nI x, nI p) else t
def btO (a : Nat → Nat → Int32) (lv sp sl cr : Nat) : Nat → Int32 × Int32 × Int32 → Int32 × Int32 × Int32 := fun x t => itN (btI a lv sp sl cr x) t sp
def btR (a : Nat → Nat → Int32) (lv sp sl cr : Nat) : Int32 × Int32 × Int32 := itN (btO a lv sp sl cr) (lR (aQ a) lv sp sl cr (a 54), -2, -2) sl
def qBetter (a : Nat → Nat → Int32) (lv sp sl cr : Nat) (what : Int32) : Int32 := if nI 0 ≤ what ∧ what ≤ nI 2 then (if (btR a lv sp sl cr).2.1 < 0 ∨ what = 0 then (btR a lv sp sl cr).2.1 else if what = nI 1 then (btR a lv sp sl cr).2.2 else (btR a lv sp sl cr).1) else -1
set_option maxHeartbeats 400000 in
theorem con_better (d : Nat) (v : Nat → Int32) (a : Nat → Nat → Int32) (b : Nat → Nat → Int64) (lv sp sl cr : Nat) (I : MI v a lv sp sl cr) (hwf : wf3 a lv) (what : Int32) (hd : 8 ≤ d) : Con mX9_better d [.ref 0, .int what] (mW v a b) (fun r W' => ∃ v' a', W' = mW v' a' b ∧ Qs v v' a a' ∧ r = some (.int (qBetter a lv sp sl cr what))) := by
  obtain ⟨hlv, hlv2, hsp, hsp1, hsp2, hsl, hsl2, hcr, hcr2⟩ := id I
  refine Con.of (by decide) (Nat.le_of_ble_eq_true rfl) ?_
  refine XG.blk tX9_better_ok 0 3 (pc' := 3) (pl' := [some (.ref 0), some (.int what), none, none, none, none, none, none]) (st' := [(.int (nI 2)), (.int (nI 0)), (.int what)]) (W1 := (mW v a b)) (bs := []) rfl rfl rfl ?_
  refine XG.callSp (r := some (.int (if (nI 0) ≤ what ∧ what ≤ (nI 2) then 1 else 0))) eX9_better_3 kl_X9_331 (con_in (d - 1) what (nI 0) (nI 2)) (px_fitS (by omega)) rfl rfl rfl rfl (Nat.le_of_ble_eq_true rfl) ?_
  refine XG.br eX9_better_6 (P := ¬ (if (nI 0) ≤ what ∧ what ≤ (nI 2) then 1 else 0) = 0) (r := []) rfl (tgt := 11) (by decide) (fun h6 => ?_) (fun h6 => ?_)
  · skip
    refine XG.blk tX9_better_ok 7 1 (pc' := 12) (pl' := [some (.ref 0), some (.int what), none, none, none, none, none, none]) (st' := [(.ref 0)]) (W1 := (mW v a b)) (bs := []) rfl rfl rfl ?_
    refine XG.callV0 eX9_better_12 kl_X9_400 (con_copQ (d - 1) v a b lv sp sl cr (Qs.rf.MI I)) (px_fitS (by omega)) rfl rfl rfl (Nat.le_of_ble_eq_true rfl) (fun r9 W9 hp9 hl9 => ?_)
    obtain ⟨rfl, rfl⟩ := hp9
    refine XG.blk tX9_better_ok 9 1 (pc' := 16) (pl' := [some (.ref 0), some (.int what), none, none, none, none, none, none]) (st' := [(.ref 0)]) (W1 := (mW (vQ v a lv 0) (aQ a) b)) (bs := []) rfl rfl rfl ?_
    refine XG.callV0 eX9_better_16 kl_X9_427 (con_leQ (d - 1) v v a a b Qs.rf 0 (a 54) lv sp sl cr I hwf (by omega)) (px_fitS (by omega)) rfl rfl rfl (Nat.le_of_ble_eq_true rfl) (fun r9 W9 hp9 hl9 => ?_)
    obtain ⟨v21, a21, rfl, hQ21, rfl⟩ := hp9
    refine XG.blk tX9_better_ok 11 7 (pc' := 30) (pl' := [some (.ref 0), some (.int what), some (.int (lR (aQ a) lv sp sl cr (a 54))), some (.int (-2)), some (.int (-2)), some (.int (nI 0)), none, none]) (st' := []) (W1 := (mW v21 a21 b)) (bs := []) rfl rfl rfl ?_
    refine px_for sl (fun i => ∀ (v9 : Nat → Int32) (a9 : Nat → Nat → Int32) (hQ9 : Qs v v9 a a9), XG mX9_better _ 0 0 30 [some (.ref 0), some (.int what), some (.int (itN (btO a lv sp sl cr) (lR (aQ a) lv sp sl cr (a 54), -2, -2) i).1), some (.int (itN (btO a lv sp sl cr) (lR (aQ a) lv sp sl cr (a 54), -2, -2) i).2.1), some (.int (itN (btO a lv sp sl cr) (lR (aQ a) lv sp sl cr (a 54), -2, -2) i).2.2), some (.int (nI i)), none, none] [] (mW v9 a9 b)) ?_ ?_ 0 (Nat.zero_le _) v21 a21 hQ21
    · intro v9 a9 hQ9
      have I9 := hQ9.MI I
      obtain ⟨hlv9, -, hsp9, -, -, hsl9, -, hcr9, -⟩ := id I9
      have q1 : (v9 18) = (nI lv) := hlv9
      have q2 : (nI lv).toNatClampNeg = lv := nI_clamp (by omega)
      have q3 : ((a9 24) lv) = (nI sl) := hsl9
      refine XG.blk tX9_better_ok 18 6 (pc' := 41) (pl' := [some (.ref 0), some (.int what), some (.int (itN (btO a lv sp sl cr) (lR (aQ a) lv sp sl cr (a 54), -2, -2) sl).1), some (.int (itN (btO a lv sp sl cr) (lR (aQ a) lv sp sl cr (a 54), -2, -2) sl).2.1), some (.int (itN (btO a lv sp sl cr) (lR (aQ a) lv sp sl cr (a 54), -2, -2) sl).2.2), some (.int (nI sl)), none, none]) (st' := [(.int ((a9 24) (v9 18).toNatClampNeg)), (.int (nI sl))]) (W1 := (mW v9 a9 b)) (bs := [px_vb (v9 18) 2]) rfl rfl (by (try simp only [q1, q2, q3]); exact (px_all (px_vbN (by omega) (by decide)) rfl)) ?_
      simp only [q1, q2, q3]
      refine XG.br eX9_better_41 (P := (nI sl) ≤ (nI sl)) (r := []) rfl (tgt := 114) (by decide) (fun h41 => ?_) (fun h41 => ?_)
      · skip
        have g41 : sl ≤ sl := (nI_leI (a := sl) (b := sl) (by omega) (by omega)).mp h41
        refine XG.blk tX9_better_ok 60 1 (pc' := 115) (pl' := [some (.ref 0), some (.int what), some (.int (itN (btO a lv sp sl cr) (lR (aQ a) lv sp sl cr (a 54), -2, -2) sl).1), some (.int (itN (btO a lv sp sl cr) (lR (aQ a) lv sp sl cr (a 54), -2, -2) sl).2.1), some (.int (itN (btO a lv sp sl cr) (lR (aQ a) lv sp sl cr (a 54), -2, -2) sl).2.2), some (.int (nI sl)), none, none]) (st' := [(.int (itN (btO a lv sp sl cr) (lR (aQ a) lv sp sl cr (a 54), -2, -2) sl).2.1)]) (W1 := (mW v9 a9 b)) (bs := []) rfl rfl rfl ?_
        refine XG.br eX9_better_115 (P := (itN (btO a lv sp sl cr) (lR (aQ a) lv sp sl cr (a 54), -2, -2) sl).2.1 < 0) (r := []) rfl (tgt := 122) (by decide) (fun h115 => ?_) (fun h115 => ?_)
        · skip
          refine XG.blk tX9_better_ok 64 1 (pc' := 123) (pl' := [some (.ref 0), some (.int what), some (.int (itN (btO a lv sp sl cr) (lR (aQ a) lv sp sl cr (a 54), -2, -2) sl).1), some (.int (itN (btO a lv sp sl cr) (lR (aQ a) lv sp sl cr (a 54), -2, -2) sl).2.1), some (.int (itN (btO a lv sp sl cr) (lR (aQ a) lv sp sl cr (a 54), -2, -2) sl).2.2), some (.int (nI sl)), none, none]) (st' := [(.int (itN (btO a lv sp sl cr) (lR (aQ a) lv sp sl cr (a 54), -2, -2) sl).2.1)]) (W1 := (mW v9 a9 b)) (bs := []) rfl rfl rfl ?_
          refine XG.goto eX9_better_123 (tgt := 137) (by decide) ?_
          refine XS.iret eX9_better_137 rfl rfl ?_
          exact ⟨_, _, rfl, hQ9, by unfold qBetter; rw [if_pos (Decidable.not_not.mp (fun z => h6 (one_ne.mpr z))), show btR a lv sp sl cr = (itN (btO a lv sp sl cr) (lR (aQ a) lv sp sl cr (a 54), -2, -2) sl) from rfl, if_pos (Or.inl h115)]⟩
        · skip
          refine XG.blk tX9_better_ok 62 1 (pc' := 119) (pl' := [some (.ref 0), some (.int what), some (.int (itN (btO a lv sp sl cr) (lR (aQ a) lv sp sl cr (a 54), -2, -2) sl).1), some (.int (itN (btO a lv sp sl cr) (lR (aQ a) lv sp sl cr (a 54), -2, -2) sl).2.1), some (.int (itN (btO a lv sp sl cr) (lR (aQ a) lv sp sl cr (a 54), -2, -2) sl).2.2), some (.int (nI sl)), none, none]) (st' := [(.int what)]) (W1 := (mW v9 a9 b)) (bs := []) rfl rfl rfl ?_
          refine XG.br eX9_better_119 (P := ¬ what = 0) (r := []) rfl (tgt := 126) (by decide) (fun h119 => ?_) (fun h119 => ?_)
          · skip
            refine XG.blk tX9_better_ok 66 2 (pc' := 128) (pl' := [some (.ref 0), some (.int what), some (.int (itN (btO a lv sp sl cr) (lR (aQ a) lv sp sl cr (a 54), -2, -2) sl).1), some (.int (itN (btO a lv sp sl cr) (lR (aQ a) lv sp sl cr (a 54), -2, -2) sl).2.1), some (.int (itN (btO a lv sp sl cr) (lR (aQ a) lv sp sl cr (a 54), -2, -2) sl).2.2), some (.int (nI sl)), none, none]) (st' := [(.int (nI 1)), (.int what)]) (W1 := (mW v9 a9 b)) (bs := []) rfl rfl rfl ?_
            refine XG.br eX9_better_128 (P := ¬ what = (nI 1)) (r := []) rfl (tgt := 136) (by decide) (fun h128 => ?_) (fun h128 => ?_)
            · skip
              refine XG.blk tX9_better_ok 71 1 (pc' := 137) (pl' := [some (.ref 0), some (.int what), some (.int (itN (btO a lv sp sl cr) (lR (aQ a) lv sp sl cr (a 54), -2, -2) sl).1), some (.int (itN (btO a lv sp sl cr) (lR (aQ a) lv sp sl cr (a 54), -2, -2) sl).2.1), some (.int (itN (btO a lv sp sl cr) (lR (aQ a) lv sp sl cr (a 54), -2, -2) sl).2.2), some (.int (nI sl)), none, none]) (st' := [(.int (itN (btO a lv sp sl cr) (lR (aQ a) lv sp sl cr (a 54), -2, -2) sl).1)]) (W1 := (mW v9 a9 b)) (bs := []) rfl rfl rfl ?_
              refine XS.iret eX9_better_137 rfl rfl ?_
              exact ⟨_, _, rfl, hQ9, by unfold qBetter; rw [if_pos (Decidable.not_not.mp (fun z => h6 (one_ne.mpr z))), show btR a lv sp sl cr = (itN (btO a lv sp sl cr) (lR (aQ a) lv sp sl cr (a 54), -2, -2) sl) from rfl, if_neg (fun hc => hc.elim h115 h119), if_neg h128]⟩
            · skip
              have h128 := Decidable.not_not.mp h128
              refine XG.blk tX9_better_ok 69 1 (pc' := 133) (pl' := [some (.ref 0), some (.int what), some (.int (itN (btO a lv sp sl cr) (lR (aQ a) lv sp sl cr (a 54), -2, -2) sl).1), some (.int (itN (btO a lv sp sl cr) (lR (aQ a) lv sp sl cr (a 54), -2, -2) sl).2.1), some (.int (itN (btO a lv sp sl cr) (lR (aQ a) lv sp sl cr (a 54), -2, -2) sl).2.2), some (.int (nI sl)), none, none]) (st' := [(.int (itN (btO a lv sp sl cr) (lR (aQ a) lv sp sl cr (a 54), -2, -2) sl).2.2)]) (W1 := (mW v9 a9 b)) (bs := []) rfl rfl rfl ?_
              refine XG.goto eX9_better_133 (tgt := 137) (by decide) ?_
              refine XS.iret eX9_better_137 rfl rfl ?_
              exact ⟨_, _, rfl, hQ9, by unfold qBetter; rw [if_pos (Decidable.not_not.mp (fun z => h6 (one_ne.mpr z))), show btR a lv sp sl cr = (itN (btO a lv sp sl cr) (lR (aQ a) lv sp sl cr (a 54), -2, -2) sl) from rfl, if_neg (fun hc => hc.elim h115 h119), if_pos h128]⟩
          · skip
            have h119 := Decidable.not_not.mp h119
            refine XG.blk tX9_better_ok 64 1 (pc' := 123) (pl' := [some (.ref 0), some (.int what), some (.int (itN (btO a lv sp sl cr) (lR (aQ a) lv sp sl cr (a 54), -2, -2) sl).1), some (.int (itN (btO a lv sp sl cr) (lR (aQ a) lv sp sl cr (a 54), -2, -2) sl).2.1), some (.int (itN (btO a lv sp sl cr) (lR (aQ a) lv sp sl cr (a 54), -2, -2) sl).2.2), some (.int (nI sl)), none, none]) (st' := [(.int (itN (btO a lv sp sl cr) (lR (aQ a) lv sp sl cr (a 54), -2, -2) sl).2.1)]) (W1 := (mW v9 a9 b)) (bs := []) rfl rfl rfl ?_
            refine XG.goto eX9_better_123 (tgt := 137) (by decide) ?_
            refine XS.iret eX9_better_137 rfl rfl ?_
            exact ⟨_, _, rfl, hQ9, by unfold qBetter; rw [if_pos (Decidable.not_not.mp (fun z => h6 (one_ne.mpr z))), show btR a lv sp sl cr = (itN (btO a lv sp sl cr) (lR (aQ a) lv sp sl cr (a 54), -2, -2) sl) from rfl, if_pos (Or.inr h119)]⟩
      · exfalso
        have g41 : ¬ sl ≤ sl := (fun z => h41 ((nI_leI (a := sl) (b := sl) (by omega) (by omega)).mpr z))
        omega
    · intro i hi ihi v9 a9 hQ9
      have I9 := hQ9.MI I
      obtain ⟨hlv9, -, hsp9, -, -, hsl9, -, hcr9, -⟩ := id I9
      have q4 : (v9 18) = (nI lv) := hlv9
      have q5 : (nI lv).toNatClampNeg = lv := nI_clamp (by omega)
      have q6 : ((a9 24) lv) = (nI sl) := hsl9
      refine XG.blk tX9_better_ok 18 6 (pc' := 41) (pl' := [some (.ref 0), some (.int what), some (.int (itN (btO a lv sp sl cr) (lR (aQ a) lv sp sl cr (a 54), -2, -2) i).1), some (.int (itN (btO a lv sp sl cr) (lR (aQ a) lv sp sl cr (a 54), -2, -2) i).2.1), some (.int (itN (btO a lv sp sl cr) (lR (aQ a) lv sp sl cr (a 54), -2, -2) i).2.2), some (.int (nI i)), none, none]) (st' := [(.int ((a9 24) (v9 18).toNatClampNeg)), (.int (nI i))]) (W1 := (mW v9 a9 b)) (bs := [px_vb (v9 18) 2]) rfl rfl (by (try simp only [q4, q5, q6]); exact (px_all (px_vbN (by omega) (by decide)) rfl)) ?_
      simp only [q4, q5, q6]
      refine XG.br eX9_better_41 (P := (nI sl) ≤ (nI i)) (r := []) rfl (tgt := 114) (by decide) (fun h41 => ?_) (fun h41 => ?_)
      · exfalso
        have g41 : sl ≤ i := (nI_leI (a := sl) (b := i) (by omega) (by omega)).mp h41
        omega
      · skip
        have g41 : ¬ sl ≤ i := (fun z => h41 ((nI_leI (a := sl) (b := i) (by omega) (by omega)).mpr z))
        refine XG.blk tX9_better_ok 25 2 (pc' := 47) (pl' := [some (.ref 0), some (.int what), some (.int (itN (btO a lv sp sl cr) (lR (aQ a) lv sp sl cr (a 54), -2, -2) i).1), some (.int (itN (btO a lv sp sl cr) (lR (aQ a) lv sp sl cr (a 54), -2, -2) i).2.1), some (.int (itN (btO a lv sp sl cr) (lR (aQ a) lv sp sl cr (a 54), -2, -2) i).2.2), some (.int (nI i)), some (.int (nI 0)), none]) (st' := []) (W1 := (mW v9 a9 b)) (bs := []) rfl rfl rfl ?_
        refine px_for sp (fun j => ∀ (v9 : Nat → Int32) (a9 : Nat → Nat → Int32) (hQ9 : Qs v v9 a a9), XG mX9_better _ 0 0 47 [some (.ref 0), some (.int what), some (.int (itN (btI a lv sp sl cr i) (itN (btO a lv sp sl cr) (lR (aQ a) lv sp sl cr (a 54), -2, -2) i) j).1), some (.int (itN (btI a lv sp sl cr i) (itN (btO a lv sp sl cr) (lR (aQ a) lv sp sl cr (a 54), -2, -2) i) j).2.1), some (.int (itN (btI a lv sp sl cr i) (itN (btO a lv sp sl cr) (lR (aQ a) lv sp sl cr (a 54), -2, -2) i) j).2.2), some (.int (nI i)), some (.int (nI j)), none] [] (mW v9 a9 b)) ?_ ?_ 0 (Nat.zero_le _) v9 a9 hQ9
        · intro v9 a9 hQ9
          have I9 := hQ9.MI I
          obtain ⟨hlv9, -, hsp9, -, -, hsl9, -, hcr9, -⟩ := id I9
          have q7 : (v9 18) = (nI lv) := hlv9
          have q8 : (nI lv).toNatClampNeg = lv := nI_clamp (by omega)
          have q9 : ((a9 23) lv) = (nI sp) := hsp9
          refine XG.blk tX9_better_ok 27 6 (pc' := 58) (pl' := [some (.ref 0), some (.int what), some (.int (itN (btI a lv sp sl cr i) (itN (btO a lv sp sl cr) (lR (aQ a) lv sp sl cr (a 54), -2, -2) i) sp).1), some (.int (itN (btI a lv sp sl cr i) (itN (btO a lv sp sl cr) (lR (aQ a) lv sp sl cr (a 54), -2, -2) i) sp).2.1), some (.int (itN (btI a lv sp sl cr i) (itN (btO a lv sp sl cr) (lR (aQ a) lv sp sl cr (a 54), -2, -2) i) sp).2.2), some (.int (nI i)), some (.int (nI sp)), none]) (st' := [(.int ((a9 23) (v9 18).toNatClampNeg)), (.int (nI sp))]) (W1 := (mW v9 a9 b)) (bs := [px_vb (v9 18) 2]) rfl rfl (by (try simp only [q7, q8, q9]); exact (px_all (px_vbN (by omega) (by decide)) rfl)) ?_
          simp only [q7, q8, q9]
          refine XG.br eX9_better_58 (P := (nI sp) ≤ (nI sp)) (r := []) rfl (tgt := 108) (by decide) (fun h58 => ?_) (fun h58 => ?_)
          · skip
            have g58 : sp ≤ sp := (nI_leI (a := sp) (b := sp) (by omega) (by omega)).mp h58
            have q10 : ((nI i) + (nI 1)) = (nI (i + 1)) := px_eadd rfl rfl
            refine XG.blk tX9_better_ok 58 1 (pc' := 111) (pl' := [some (.ref 0), some (.int what), some (.int (itN (btI a lv sp sl cr i) (itN (btO a lv sp sl cr) (lR (aQ a) lv sp sl cr (a 54), -2, -2) i) sp).1), some (.int (itN (btI a lv sp sl cr i) (itN (btO a lv sp sl cr) (lR (aQ a) lv sp sl cr (a 54), -2, -2) i) sp).2.1), some (.int (itN (btI a lv sp sl cr i) (itN (btO a lv sp sl cr) (lR (aQ a) lv sp sl cr (a 54), -2, -2) i) sp).2.2), some (.int ((nI i) + (nI 1))), some (.int (nI sp)), none]) (st' := []) (W1 := (mW v9 a9 b)) (bs := []) rfl rfl rfl ?_
            simp only [q10]
            refine XG.goto eX9_better_111 (tgt := 30) (by decide) ?_
            refine XG.weak (pl' := [some (.ref 0), some (.int what), some (.int (itN (btO a lv sp sl cr) (lR (aQ a) lv sp sl cr (a 54), -2, -2) (i + 1)).1), some (.int (itN (btO a lv sp sl cr) (lR (aQ a) lv sp sl cr (a 54), -2, -2) (i + 1)).2.1), some (.int (itN (btO a lv sp sl cr) (lR (aQ a) lv sp sl cr (a 54), -2, -2) (i + 1)).2.2), some (.int (nI (i + 1))), none, none]) ⟨rfl, rfl, rfl, rfl, rfl, rfl, trivial⟩ ?_
            exact ihi v9 a9 hQ9
          · exfalso
            have g58 : ¬ sp ≤ sp := (fun z => h58 ((nI_leI (a := sp) (b := sp) (by omega) (by omega)).mpr z))
            omega
        · intro j hj ihj v9 a9 hQ9
          have I9 := hQ9.MI I
          obtain ⟨hlv9, -, hsp9, -, -, hsl9, -, hcr9, -⟩ := id I9
          have q11 : (v9 18) = (nI lv) := hlv9
          have q12 : (nI lv).toNatClampNeg = lv := nI_clamp (by omega)
          have q13 : ((a9 23) lv) = (nI sp) := hsp9
          refine XG.blk tX9_better_ok 27 6 (pc' := 58) (pl' := [some (.ref 0), some (.int what), some (.int (itN (btI a lv sp sl cr i) (itN (btO a lv sp sl cr) (lR (aQ a) lv sp sl cr (a 54), -2, -2) i) j).1), some (.int (itN (btI a lv sp sl cr i) (itN (btO a lv sp sl cr) (lR (aQ a) lv sp sl cr (a 54), -2, -2) i) j).2.1), some (.int (itN (btI a lv sp sl cr i) (itN (btO a lv sp sl cr) (lR (aQ a) lv sp sl cr (a 54), -2, -2) i) j).2.2), some (.int (nI i)), some (.int (nI j)), none]) (st' := [(.int ((a9 23) (v9 18).toNatClampNeg)), (.int (nI j))]) (W1 := (mW v9 a9 b)) (bs := [px_vb (v9 18) 2]) rfl rfl (by (try simp only [q11, q12, q13]); exact (px_all (px_vbN (by omega) (by decide)) rfl)) ?_
          simp only [q11, q12, q13]
          refine XG.br eX9_better_58 (P := (nI sp) ≤ (nI j)) (r := []) rfl (tgt := 108) (by decide) (fun h58 => ?_) (fun h58 => ?_)
          · exfalso
            have g58 : sp ≤ j := (nI_leI (a := sp) (b := j) (by omega) (by omega)).mp h58
            omega
          · skip
            have g58 : ¬ sp ≤ j := (fun z => h58 ((nI_leI (a := sp) (b := j) (by omega) (by omega)).mpr z))
            refine XG.blk tX9_better_ok 34 1 (pc' := 62) (pl' := [some (.ref 0), some (.int what), some (.int (itN (btI a lv sp sl cr i) (itN (btO a lv sp sl cr) (lR (aQ a) lv sp sl cr (a 54), -2, -2) i) j).1), some (.int (itN (btI a lv sp sl cr i) (itN (btO a lv sp sl cr) (lR (aQ a) lv sp sl cr (a 54), -2, -2) i) j).2.1), some (.int (itN (btI a lv sp sl cr i) (itN (btO a lv sp sl cr) (lR (aQ a) lv sp sl cr (a 54), -2, -2) i) j).2.2), some (.int (nI i)), some (.int (nI j)), none]) (st' := [(.ref 0)]) (W1 := (mW v9 a9 b)) (bs := []) rfl rfl rfl ?_
            refine XG.callV0 eX9_better_62 kl_X9_400 (con_copQ (d - 1) v9 a9 b lv sp sl cr (hQ9.MI I)) (px_fitS (by omega)) rfl rfl rfl (Nat.le_of_ble_eq_true rfl) (fun r9 W9 hp9 hl9 => ?_)
            obtain ⟨rfl, rfl⟩ := hp9
            have q14 : ((nI 12) + (nI i)) = (nI (12 + i)) := px_eadd rfl rfl
            have q15 : ((aQ a9) 55) = (a 54) := hQ9.2 54 (by decide)
            have q16 : (nI (12 + i)).toNatClampNeg = (12 + i) := nI_clamp (by omega)
            refine XG.blk tX9_better_ok 36 8 (pc' := 78) (pl' := [some (.ref 0), some (.int what), some (.int (itN (btI a lv sp sl cr i) (itN (btO a lv sp sl cr) (lR (aQ a) lv sp sl cr (a 54), -2, -2) i) j).1), some (.int (itN (btI a lv sp sl cr i) (itN (btO a lv sp sl cr) (lR (aQ a) lv sp sl cr (a 54), -2, -2) i) j).2.1), some (.int (itN (btI a lv sp sl cr i) (itN (btO a lv sp sl cr) (lR (aQ a) lv sp sl cr (a 54), -2, -2) i) j).2.2), some (.int (nI i)), some (.int (nI j)), none]) (st' := [(.ref 0)]) (W1 := (mW (vQ v9 a9 lv 0) (va_up (aQ a9) 55 (upd ((aQ a9) 55) ((nI 12) + (nI i)).toNatClampNeg (nI j))) b)) (bs := [px_vb ((nI 12) + (nI i)) 32]) rfl rfl (by (try simp only [q14, q15, q16]); exact (px_all (px_vbN (by omega) (by decide)) rfl)) ?_
            simp only [q14, q15, q16]
            refine XG.callV0 eX9_better_78 kl_X9_427 (con_leQ (d - 1) v v9 a a9 b hQ9 0 (upd (a 54) (12 + i) (nI j)) lv sp sl cr I hwf (by omega)) (px_fitS (by omega)) rfl rfl rfl (Nat.le_of_ble_eq_true rfl) (fun r9 W9 hp9 hl9 => ?_)
            obtain ⟨v22, a22, rfl, hQ22, rfl⟩ := hp9
            refine XG.blk tX9_better_ok 45 3 (pc' := 86) (pl' := [some (.ref 0), some (.int what), some (.int (itN (btI a lv sp sl cr i) (itN (btO a lv sp sl cr) (lR (aQ a) lv sp sl cr (a 54), -2, -2) i) j).1), some (.int (itN (btI a lv sp sl cr i) (itN (btO a lv sp sl cr) (lR (aQ a) lv sp sl cr (a 54), -2, -2) i) j).2.1), some (.int (itN (btI a lv sp sl cr i) (itN (btO a lv sp sl cr) (lR (aQ a) lv sp sl cr (a 54), -2, -2) i) j).2.2), some (.int (nI i)), some (.int (nI j)), some (.int (lR (aQ a) lv sp sl cr (upd (a 54) (12 + i) (nI j))))]) (st' := [(.int (itN (btI a lv sp sl cr i) (itN (btO a lv sp sl cr) (lR (aQ a) lv sp sl cr (a 54), -2, -2) i) j).1), (.int (lR (aQ a) lv sp sl cr (upd (a 54) (12 + i) (nI j))))]) (W1 := (mW v22 a22 b)) (bs := []) rfl rfl rfl ?_
            refine XG.br eX9_better_86 (P := (itN (btI a lv sp sl cr i) (itN (btO a lv sp sl cr) (lR (aQ a) lv sp sl cr (a 54), -2, -2) i) j).1 < (lR (aQ a) lv sp sl cr (upd (a 54) (12 + i) (nI j)))) (r := []) rfl (tgt := 92) (by decide) (fun h86 => ?_) (fun h86 => ?_)
            · skip
              have q17 : ((nI j) + (nI 1)) = (nI (j + 1)) := px_eadd rfl rfl
              refine XG.blk tX9_better_ok 50 7 (pc' := 105) (pl' := [some (.ref 0), some (.int what), some (.int (lR (aQ a) lv sp sl cr (upd (a 54) (12 + i) (nI j)))), some (.int (nI i)), some (.int (nI j)), some (.int (nI i)), some (.int ((nI j) + (nI 1))), some (.int (lR (aQ a) lv sp sl cr (upd (a 54) (12 + i) (nI j))))]) (st' := []) (W1 := (mW v22 a22 b)) (bs := []) rfl rfl rfl ?_
              simp only [q17]
              refine XG.goto eX9_better_105 (tgt := 47) (by decide) ?_
              rw [show (itN (btI a lv sp sl cr i) (itN (btO a lv sp sl cr) (lR (aQ a) lv sp sl cr (a 54), -2, -2) i) (j + 1)) = (lR (aQ a) lv sp sl cr (upd (a 54) (12 + i) (nI j)), nI i, nI j) from if_pos h86] at ihj
              refine XG.weak (pl' := [some (.ref 0), some (.int what), some (.int (lR (aQ a) lv sp sl cr (upd (a 54) (12 + i) (nI j)), nI i, nI j).1), some (.int (lR (aQ a) lv sp sl cr (upd (a 54) (12 + i) (nI j)), nI i, nI j).2.1), some (.int (lR (aQ a) lv sp sl cr (upd (a 54) (12 + i) (nI j)), nI i, nI j).2.2), some (.int (nI i)), some (.int (nI (j + 1))), none]) ⟨rfl, rfl, rfl, rfl, rfl, rfl, rfl, trivial⟩ ?_
              exact ihj v22 a22 hQ22
            · skip
              refine XG.goto eX9_better_89 (tgt := 102) (by decide) ?_
              have q18 : ((nI j) + (nI 1)) = (nI (j + 1)) := px_eadd rfl rfl
              refine XG.blk tX9_better_ok 56 1 (pc' := 105) (pl' := [some (.ref 0), some (.int what), some (.int (itN (btI a lv sp sl cr i) (itN (btO a lv sp sl cr) (lR (aQ a) lv sp sl cr (a 54), -2, -2) i) j).1), some (.int (itN (btI a lv sp sl cr i) (itN (btO a lv sp sl cr) (lR (aQ a) lv sp sl cr (a 54), -2, -2) i) j).2.1), some (.int (itN (btI a lv sp sl cr i) (itN (btO a lv sp sl cr) (lR (aQ a) lv sp sl cr (a 54), -2, -2) i) j).2.2), some (.int (nI i)), some (.int ((nI j) + (nI 1))), some (.int (lR (aQ a) lv sp sl cr (upd (a 54) (12 + i) (nI j))))]) (st' := []) (W1 := (mW v22 a22 b)) (bs := []) rfl rfl rfl ?_
              simp only [q18]
              refine XG.goto eX9_better_105 (tgt := 47) (by decide) ?_
              rw [show (itN (btI a lv sp sl cr i) (itN (btO a lv sp sl cr) (lR (aQ a) lv sp sl cr (a 54), -2, -2) i) (j + 1)) = (itN (btI a lv sp sl cr i) (itN (btO a lv sp sl cr) (lR (aQ a) lv sp sl cr (a 54), -2, -2) i) j) from if_neg h86] at ihj
              refine XG.weak (pl' := [some (.ref 0), some (.int what), some (.int (itN (btI a lv sp sl cr i) (itN (btO a lv sp sl cr) (lR (aQ a) lv sp sl cr (a 54), -2, -2) i) j).1), some (.int (itN (btI a lv sp sl cr i) (itN (btO a lv sp sl cr) (lR (aQ a) lv sp sl cr (a 54), -2, -2) i) j).2.1), some (.int (itN (btI a lv sp sl cr i) (itN (btO a lv sp sl cr) (lR (aQ a) lv sp sl cr (a 54), -2, -2) i) j).2.2), some (.int (nI i)), some (.int (nI (j + 1))), none]) ⟨rfl, rfl, rfl, rfl, rfl, rfl, rfl, trivial⟩ ?_
              exact ihj v22 a22 hQ22
  · skip
    have h6 := Decidable.not_not.mp h6
    refine XG.blk tX9_better_ok 5 1 (pc' := 10) (pl' := [some (.ref 0), some (.int what), none, none, none, none, none, none]) (st' := [(.int (-1))]) (W1 := (mW v a b)) (bs := []) rfl rfl rfl ?_
    refine XS.iret eX9_better_10 rfl rfl ?_
    exact ⟨_, _, rfl, Qs.rf, by unfold qBetter; rw [if_neg (one_ne.mp h6)]⟩
