/-! the reference: weakest -/
theorem K.self {v : Nat → Int32} {a : Nat → Nat → Int32} : K v a (a 55) (a 60) v a := ⟨chg.rf, chg.rf, rfl, rfl⟩
theorem Qs.relS {v v9 : Nat → Int32} {a a9 : Nat → Nat → Int32} (h : Qs v v9 a a9) (R : Nat → Int32) : ∀ k ∈ relS, va_up a9 55 R k = va_up (aQ a) 55 R k := by
  refine relT_S (fun k hk => ?_) R
  have h1 := h.rel k hk
  rw [← h1]
  unfold aQ
  exact (if_neg (by clear h1; revert k; decide)).symm
theorem con_lieQ (d : Nat) (v v9 : Nat → Int32) (a a9 : Nat → Nat → Int32) (b : Nat → Nat → Int64) (hQ : Qs v v9 a a9) (lv sp sl cr : Nat) (I : MI v a lv sp sl cr) (hL : LO (a 54) sl (a9 55)) (y : Nat) (hy : y < 2 ^ 31) (hd : 3 ≤ d) : Con mX9_lieSo d [.ref 0, .int (nI y)] (mW v9 a9 b) (fun q W' => ∃ v' a', W' = mW v' a' b ∧ Qs v v' a a' ∧ chg [53] v9 v' ∧ LO (a 54) sl (a' 55) ∧ (okW sl sp y → a' 55 = lyF (a 54) sl sl y) ∧ q = some (.int (if okW sl sp y then 1 else 0))) := by
  have h1 := con_lieSo d v9 v9 a9 a9 b _ _ K.self lv sp sl cr (hQ.MI I) y hy (a 54) hL hd
  refine h1.mono (fun r W' hp => ?_)
  obtain ⟨v', a', r', rfl, hk, hl, ho, rfl⟩ := hp
  exact ⟨v', a', rfl, hQ.tr (Qs.K hk), hk.1, by rw [hk.2.2.1]; exact hl, fun h => by rw [hk.2.2.1]; exact ho h, rfl⟩
theorem con_leP (d : Nat) (v v9 : Nat → Int32) (a a9 : Nat → Nat → Int32) (b : Nat → Nat → Int64) (hQ : Qs v v9 a a9) (R : Nat → Int32) (h55 : a9 55 = R) (lv sp sl cr : Nat) (I : MI v a lv sp sl cr) (hwf : wf3 a lv) (hd : 6 ≤ d) : Con mX9_leastNow d [.ref 0] (mW v9 a9 b) (fun z W' => ∃ v' a', W' = mW v' a' b ∧ Qs v v' a a' ∧ chg [53] v9 v' ∧ a' 55 = R ∧ z = some (.int (lR (aQ a) lv sp sl cr R))) := by
  have hK : K v9 a9 R (a9 60) v9 a9 := ⟨chg.rf, chg.rf, h55, rfl⟩
  have h1 := con_leK d v9 v9 a9 a9 b _ _ hK lv sp sl cr (hQ.MI I) (hQ.w3 hwf) hd
  rw [show lR a9 lv sp sl cr R = lR (aQ a) lv sp sl cr R from least_chg (hQ.relS R) lv sp sl cr] at h1
  refine h1.mono (fun r W' hp => ?_)
  obtain ⟨v', a', rfl, hj, rfl⟩ := hp
  exact ⟨v', a', rfl, hQ.tr (Qs.J hj), hj.1, (hj.2 55 (by decide)).trans h55, rfl⟩
abbrev wkV (a : Nat → Nat → Int32) (lv sp sl cr y : Nat) : Int32 := lR (aQ a) lv sp sl cr (lyF (a 54) sl sl y)
def wkF (a : Nat → Nat → Int32) (lv sp sl cr : Nat) : Nat → Int32 × Int32 → Int32 × Int32 := fun y p => if okW sl sp y ∧ (p.2 < 0 ∨ p.1 < wkV a lv sp sl cr y) then (wkV a lv sp sl cr y, nI y) else p
def wkR (x : Int32) (a : Nat → Nat → Int32) (lv sp sl cr : Nat) : Int32 × Int32 := itN (wkF a lv sp sl cr) (x, -1) (5 ^ sl)
theorem wk_ex (x : Int32) (a : Nat → Nat → Int32) (lv sp sl cr : Nat) (h1 : 1 ≤ sp) : ∀ n, ∃ w, w ≤ n ∧ (itN (wkF a lv sp sl cr) (x, -1) (n + 1)).2 = nI w := by
  intro n
  induction n with
  | zero =>
    refine ⟨0, Nat.le_refl _, ?_⟩
    show (wkF a lv sp sl cr 0 (x, -1)).2 = nI 0
    unfold wkF
    rw [if_pos ⟨fun i _ => by unfold dig; rw [Nat.zero_div]; exact h1, Or.inl (show (-1 : Int32) < 0 by decide)⟩]
  | succ n ih =>
    obtain ⟨w, hw, e⟩ := ih
    show ∃ w, w ≤ n + 1 ∧ (wkF a lv sp sl cr (n + 1) (itN (wkF a lv sp sl cr) (x, -1) (n + 1))).2 = nI w
    by_cases hc : okW sl sp (n + 1) ∧ ((itN (wkF a lv sp sl cr) (x, -1) (n + 1)).2 < 0 ∨ (itN (wkF a lv sp sl cr) (x, -1) (n + 1)).1 < wkV a lv sp sl cr (n + 1))
    · exact ⟨n + 1, Nat.le_refl _, congrArg Prod.snd (if_pos hc)⟩
    · exact ⟨w, by omega, by rw [← e]; exact congrArg Prod.snd (if_neg hc)⟩
def qWeak (x : Int32) (a : Nat → Nat → Int32) (lv sp sl cr : Nat) (p : Int32) : Int32 := if p = -1 then (wkR x a lv sp sl cr).1 else if px_vb p sl = true then nI (dig (wkR x a lv sp sl cr).2.toNatClampNeg (sl - 1 - p.toNatClampNeg)) else -1
set_option maxHeartbeats 400000 in
theorem con_weakest (d : Nat) (v : Nat → Int32) (a : Nat → Nat → Int32) (b : Nat → Nat → Int64) (lv sp sl cr : Nat) (I : MI v a lv sp sl cr) (hwf : wf3 a lv) (p : Int32) (hd : 8 ≤ d) : Con mX9_weakest d [.ref 0, .int p] (mW v a b) (fun r W' => ∃ v' a', W' = mW v' a' b ∧ Qs v v' a a' ∧ r = some (.int (qWeak (v 63) a lv sp sl cr p))) := by
  obtain ⟨hlv, hlv2, hsp, hsp1, hsp2, hsl, hsl2, hcr, hcr2⟩ := id I
  refine Con.of (by decide) (Nat.le_of_ble_eq_true rfl) ?_
  have hp5 := p5_le (k := sl) (by omega)
  by_cases hp1 : p = -1
  · subst hp1
    have eA : qWeak (v 63) a lv sp sl cr (-1) = (itN (wkF a lv sp sl cr) (v 63, -1) (5 ^ sl)).1 := if_pos rfl
    simp only [eA]
    refine XG.blk tX9_weakest_ok 0 2 (pc' := 2) (pl' := [some (.ref 0), some (.int (-1)), none, none]) (st' := [(.int (-1)), (.int (-1))]) (W1 := (mW v a b)) (bs := []) rfl rfl rfl ?_
    refine XG.br eX9_weakest_2 (P := (-1) = (-1)) (r := []) rfl (tgt := 15) (by decide) (fun h2 => ?_) (fun h2 => ?_)
    · skip
      refine XG.blk tX9_weakest_ok 9 1 (pc' := 16) (pl' := [some (.ref 0), some (.int (-1)), none, none]) (st' := [(.ref 0)]) (W1 := (mW v a b)) (bs := []) rfl rfl rfl ?_
      refine XG.callV0 eX9_weakest_16 kl_X9_400 (con_copQ (d - 1) v a b lv sp sl cr I) (px_fitS (by omega)) rfl rfl rfl (Nat.le_of_ble_eq_true rfl) (fun r9 W9 hp9 hl9 => ?_)
      obtain ⟨rfl, rfl⟩ := hp9
      refine XG.blk tX9_weakest_ok 11 5 (pc' := 26) (pl' := [some (.ref 0), some (.int (-1)), some (.int (nI 0)), none]) (st' := []) (W1 := (mW (va_up (vQ v a lv 0) 64 (-1)) (aQ a) b)) (bs := []) rfl rfl rfl ?_
      refine px_for (5 ^ sl) (fun j => ∀ (v9 : Nat → Int32) (a9 : Nat → Nat → Int32) (hQ9 : Qs v v9 a a9) (hL9 : LO (a 54) sl (a9 55)) (h63 : v9 63 = (itN (wkF a lv sp sl cr) (v 63, -1) j).1) (h64 : v9 64 = (itN (wkF a lv sp sl cr) (v 63, -1) j).2), XG mX9_weakest _ 0 0 26 [some (.ref 0), some (.int (-1)), some (.int (nI j)), none] [] (mW v9 a9 b)) ?_ ?_ 0 (Nat.zero_le _) _ _ (⟨(Qs.c (v := v) (a := a) (lv := lv) (q := 0) rfl rfl).1.tr (chg.up (by decide)), (Qs.c (v := v) (a := a) (lv := lv) (q := 0) rfl rfl).2⟩) LO.rf rfl rfl
      · intro v9 a9 hQ9 hL9 h63 h64
        have I9 := hQ9.MI I
        obtain ⟨hlv9, -, hsp9, -, -, hsl9, -, hcr9, -⟩ := id I9
        have q1 : (v9 18) = (nI lv) := hlv9
        have q2 : (nI lv).toNatClampNeg = lv := nI_clamp (by omega)
        have q3 : ((a9 24) lv) = (nI sl) := hsl9
        refine XG.blk tX9_weakest_ok 16 6 (pc' := 36) (pl' := [some (.ref 0), some (.int (-1)), some (.int (nI (5 ^ sl))), none]) (st' := [(.int ((a9 24) (v9 18).toNatClampNeg)), (.int (nI (5 ^ sl)))]) (W1 := (mW v9 a9 b)) (bs := [px_vb (v9 18) 2]) rfl rfl (by (try simp only [q1, q2, q3]); exact (px_all (px_vbN (by omega) (by decide)) rfl)) ?_
        simp only [q1, q2, q3]
        refine XG.callSp (r := some (.int (nI (5 ^ sl)))) eX9_weakest_36 kl_X9_430 (con_fives (d - 1) sl (by omega)) (px_fitS (by omega)) rfl rfl rfl rfl (Nat.le_of_ble_eq_true rfl) ?_
        refine XG.br eX9_weakest_39 (P := (nI (5 ^ sl)) ≤ (nI (5 ^ sl))) (r := []) rfl (tgt := 92) (by decide) (fun h39 => ?_) (fun h39 => ?_)
        · skip
          have g39 : (5 ^ sl) ≤ (5 ^ sl) := (nI_leI (a := (5 ^ sl)) (b := (5 ^ sl)) (by omega) (by omega)).mp h39
          refine XG.blk tX9_weakest_ok 48 2 (pc' := 94) (pl' := [some (.ref 0), some (.int (-1)), some (.int (nI (5 ^ sl))), none]) (st' := [(.int (-1)), (.int (-1))]) (W1 := (mW v9 a9 b)) (bs := []) rfl rfl rfl ?_
          refine XG.br eX9_weakest_94 (P := ¬ (-1) = (-1)) (r := []) rfl (tgt := 104) (by decide) (fun h94 => ?_) (fun h94 => ?_)
          · exfalso
            first | exact h2 rfl | exact h94 rfl
          · skip
            have h94 := Decidable.not_not.mp h94
            have q4 : (v9 63) = (itN (wkF a lv sp sl cr) (v 63, -1) (5 ^ sl)).1 := h63
            refine XG.blk tX9_weakest_ok 51 2 (pc' := 101) (pl' := [some (.ref 0), some (.int (-1)), some (.int (nI (5 ^ sl))), none]) (st' := [(.int (v9 63))]) (W1 := (mW v9 a9 b)) (bs := []) rfl rfl rfl ?_
            simp only [q4]
            refine XG.goto eX9_weakest_101 (tgt := 127) (by decide) ?_
            refine XS.iret eX9_weakest_127 rfl rfl ?_
            exact ⟨_, _, rfl, hQ9, rfl⟩
        · exfalso
          have g39 : ¬ (5 ^ sl) ≤ (5 ^ sl) := (fun z => h39 ((nI_leI (a := (5 ^ sl)) (b := (5 ^ sl)) (by omega) (by omega)).mpr z))
          omega
      · intro j hj ihj v9 a9 hQ9 hL9 h63 h64
        have I9 := hQ9.MI I
        obtain ⟨hlv9, -, hsp9, -, -, hsl9, -, hcr9, -⟩ := id I9
        have q5 : (v9 18) = (nI lv) := hlv9
        have q6 : (nI lv).toNatClampNeg = lv := nI_clamp (by omega)
        have q7 : ((a9 24) lv) = (nI sl) := hsl9
        refine XG.blk tX9_weakest_ok 16 6 (pc' := 36) (pl' := [some (.ref 0), some (.int (-1)), some (.int (nI j)), none]) (st' := [(.int ((a9 24) (v9 18).toNatClampNeg)), (.int (nI j))]) (W1 := (mW v9 a9 b)) (bs := [px_vb (v9 18) 2]) rfl rfl (by (try simp only [q5, q6, q7]); exact (px_all (px_vbN (by omega) (by decide)) rfl)) ?_
        simp only [q5, q6, q7]
        refine XG.callSp (r := some (.int (nI (5 ^ sl)))) eX9_weakest_36 kl_X9_430 (con_fives (d - 1) sl (by omega)) (px_fitS (by omega)) rfl rfl rfl rfl (Nat.le_of_ble_eq_true rfl) ?_
        refine XG.br eX9_weakest_39 (P := (nI (5 ^ sl)) ≤ (nI j)) (r := []) rfl (tgt := 92) (by decide) (fun h39 => ?_) (fun h39 => ?_)
        · exfalso
          have g39 : (5 ^ sl) ≤ j := (nI_leI (a := (5 ^ sl)) (b := j) (by omega) (by omega)).mp h39
          omega
        · skip
          have g39 : ¬ (5 ^ sl) ≤ j := (fun z => h39 ((nI_leI (a := (5 ^ sl)) (b := j) (by omega) (by omega)).mpr z))
          refine XG.blk tX9_weakest_ok 24 2 (pc' := 44) (pl' := [some (.ref 0), some (.int (-1)), some (.int (nI j)), none]) (st' := [(.int (nI j)), (.ref 0)]) (W1 := (mW v9 a9 b)) (bs := []) rfl rfl rfl ?_
          refine XG.callV0 eX9_weakest_44 kl_X9_436 (con_lieQ (d - 1) v v9 a a9 b hQ9 lv sp sl cr I hL9 j (by omega) (by omega)) (px_fitS (by omega)) rfl rfl rfl (Nat.le_of_ble_eq_true rfl) (fun r9 W9 hp9 hl9 => ?_)
          obtain ⟨v21, a21, rfl, hQ21, hv21, hL21, ho21, rfl⟩ := hp9
          refine XG.br eX9_weakest_47 (P := ¬ (if okW sl sp j then 1 else 0) = 0) (r := []) rfl (tgt := 53) (by decide) (fun h47 => ?_) (fun h47 => ?_)
          · skip
            have ok9 : okW sl sp j := Decidable.not_not.mp (fun z => h47 (one_ne.mpr z))
            refine XG.blk tX9_weakest_ok 29 1 (pc' := 54) (pl' := [some (.ref 0), some (.int (-1)), some (.int (nI j)), none]) (st' := [(.ref 0)]) (W1 := (mW v21 a21 b)) (bs := []) rfl rfl rfl ?_
            refine XG.callV0 eX9_weakest_54 kl_X9_427 (con_leP (d - 1) v v21 a a21 b hQ21 (lyF (a 54) sl sl j) (ho21 ok9) lv sp sl cr I hwf (by omega)) (px_fitS (by omega)) rfl rfl rfl (Nat.le_of_ble_eq_true rfl) (fun r9 W9 hp9 hl9 => ?_)
            obtain ⟨v22, a22, rfl, hQ22, hv22, h55_22, rfl⟩ := hp9
            have q8 : (v22 64) = (itN (wkF a lv sp sl cr) (v 63, -1) j).2 := (hv22 64 (by decide)).trans ((hv21 64 (by decide)).trans h64)
            refine XG.blk tX9_weakest_ok 31 3 (pc' := 62) (pl' := [some (.ref 0), some (.int (-1)), some (.int (nI j)), some (.int (wkV a lv sp sl cr j))]) (st' := [(.int (v22 64))]) (W1 := (mW v22 a22 b)) (bs := []) rfl rfl rfl ?_
            simp only [q8]
            refine XG.br eX9_weakest_62 (P := (itN (wkF a lv sp sl cr) (v 63, -1) j).2 < 0) (r := []) rfl (tgt := 76) (by decide) (fun h62 => ?_) (fun h62 => ?_)
            · skip
              have q9 : ((nI j) + (nI 1)) = (nI (j + 1)) := px_eadd rfl rfl
              refine XG.blk tX9_weakest_ok 40 7 (pc' := 89) (pl' := [some (.ref 0), some (.int (-1)), some (.int ((nI j) + (nI 1))), some (.int (wkV a lv sp sl cr j))]) (st' := []) (W1 := (mW (va_up (va_up v22 63 (wkV a lv sp sl cr j)) 64 (nI j)) a22 b)) (bs := []) rfl rfl rfl ?_
              simp only [q9]
              refine XG.goto eX9_weakest_89 (tgt := 26) (by decide) ?_
              rw [show (itN (wkF a lv sp sl cr) (v 63, -1) (j + 1)) = (wkV a lv sp sl cr j, nI j) from if_pos ⟨ok9, Or.inl h62⟩] at ihj
              refine XG.weak (pl' := [some (.ref 0), some (.int (-1)), some (.int (nI (j + 1))), none]) ⟨rfl, rfl, rfl, trivial⟩ ?_
              exact ihj (va_up (va_up v22 63 (wkV a lv sp sl cr j)) 64 (nI j)) a22 ⟨hQ22.1.tr (chg.up (by decide)) |>.tr (chg.up (by decide)), hQ22.2⟩ (by show LO _ _ (a22 55); rw [h55_22]; exact lyF_LO LO.rf (Nat.le_refl _)) rfl rfl
            · skip
              have q10 : (v22 63) = (itN (wkF a lv sp sl cr) (v 63, -1) j).1 := (hv22 63 (by decide)).trans ((hv21 63 (by decide)).trans h63)
              refine XG.blk tX9_weakest_ok 35 3 (pc' := 70) (pl' := [some (.ref 0), some (.int (-1)), some (.int (nI j)), some (.int (wkV a lv sp sl cr j))]) (st' := [(.int (v22 63)), (.int (wkV a lv sp sl cr j))]) (W1 := (mW v22 a22 b)) (bs := []) rfl rfl rfl ?_
              simp only [q10]
              refine XG.br eX9_weakest_70 (P := (itN (wkF a lv sp sl cr) (v 63, -1) j).1 < (wkV a lv sp sl cr j)) (r := []) rfl (tgt := 76) (by decide) (fun h70 => ?_) (fun h70 => ?_)
              · skip
                have q11 : ((nI j) + (nI 1)) = (nI (j + 1)) := px_eadd rfl rfl
                refine XG.blk tX9_weakest_ok 40 7 (pc' := 89) (pl' := [some (.ref 0), some (.int (-1)), some (.int ((nI j) + (nI 1))), some (.int (wkV a lv sp sl cr j))]) (st' := []) (W1 := (mW (va_up (va_up v22 63 (wkV a lv sp sl cr j)) 64 (nI j)) a22 b)) (bs := []) rfl rfl rfl ?_
                simp only [q11]
                refine XG.goto eX9_weakest_89 (tgt := 26) (by decide) ?_
                rw [show (itN (wkF a lv sp sl cr) (v 63, -1) (j + 1)) = (wkV a lv sp sl cr j, nI j) from if_pos ⟨ok9, Or.inr h70⟩] at ihj
                refine XG.weak (pl' := [some (.ref 0), some (.int (-1)), some (.int (nI (j + 1))), none]) ⟨rfl, rfl, rfl, trivial⟩ ?_
                exact ihj (va_up (va_up v22 63 (wkV a lv sp sl cr j)) 64 (nI j)) a22 ⟨hQ22.1.tr (chg.up (by decide)) |>.tr (chg.up (by decide)), hQ22.2⟩ (by show LO _ _ (a22 55); rw [h55_22]; exact lyF_LO LO.rf (Nat.le_refl _)) rfl rfl
              · skip
                refine XG.goto eX9_weakest_73 (tgt := 86) (by decide) ?_
                have q12 : ((nI j) + (nI 1)) = (nI (j + 1)) := px_eadd rfl rfl
                refine XG.blk tX9_weakest_ok 46 1 (pc' := 89) (pl' := [some (.ref 0), some (.int (-1)), some (.int ((nI j) + (nI 1))), some (.int (wkV a lv sp sl cr j))]) (st' := []) (W1 := (mW v22 a22 b)) (bs := []) rfl rfl rfl ?_
                simp only [q12]
                refine XG.goto eX9_weakest_89 (tgt := 26) (by decide) ?_
                rw [show (itN (wkF a lv sp sl cr) (v 63, -1) (j + 1)) = (itN (wkF a lv sp sl cr) (v 63, -1) j) from if_neg (fun hc => hc.2.elim h62 h70)] at ihj
                refine XG.weak (pl' := [some (.ref 0), some (.int (-1)), some (.int (nI (j + 1))), none]) ⟨rfl, rfl, rfl, trivial⟩ ?_
                exact ihj v22 a22 hQ22 (by rw [h55_22]; exact lyF_LO LO.rf (Nat.le_refl _)) ((hv22 63 (by decide)).trans ((hv21 63 (by decide)).trans h63)) ((hv22 64 (by decide)).trans ((hv21 64 (by decide)).trans h64))
          · skip
            have h47 := Decidable.not_not.mp h47
            refine XG.goto eX9_weakest_50 (tgt := 86) (by decide) ?_
            have q13 : ((nI j) + (nI 1)) = (nI (j + 1)) := px_eadd rfl rfl
            refine XG.blk tX9_weakest_ok 46 1 (pc' := 89) (pl' := [some (.ref 0), some (.int (-1)), some (.int ((nI j) + (nI 1))), none]) (st' := []) (W1 := (mW v21 a21 b)) (bs := []) rfl rfl rfl ?_
            simp only [q13]
            refine XG.goto eX9_weakest_89 (tgt := 26) (by decide) ?_
            rw [show (itN (wkF a lv sp sl cr) (v 63, -1) (j + 1)) = (itN (wkF a lv sp sl cr) (v 63, -1) j) from if_neg (fun hc => (one_ne.mp h47) hc.1)] at ihj
            exact ihj v21 a21 hQ21 hL21 ((hv21 63 (by decide)).trans h63) ((hv21 64 (by decide)).trans h64)
    · exfalso
      first | exact h2 rfl | exact h94 rfl
  · by_cases hp : px_vb p sl = true
    · obtain ⟨x, hx, rfl⟩ := px_vb_ex hp (by omega)
      obtain ⟨w9, hw9, ew9⟩ := wk_ex (v 63) a lv sp sl cr hsp1 (5 ^ sl - 1)
      rw [show 5 ^ sl - 1 + 1 = 5 ^ sl by omega] at ew9
      have eA : qWeak (v 63) a lv sp sl cr (nI x) = nI (dig w9 (sl - 1 - x)) := by unfold qWeak wkR; rw [if_neg hp1, if_pos hp, nI_clamp (by omega), ew9, nI_clamp (by omega)]
      simp only [eA]
      refine XG.blk tX9_weakest_ok 0 2 (pc' := 2) (pl' := [some (.ref 0), some (.int (nI x)), none, none]) (st' := [(.int (-1)), (.int (nI x))]) (W1 := (mW v a b)) (bs := []) rfl rfl rfl ?_
      refine XG.br eX9_weakest_2 (P := (nI x) = (-1)) (r := []) rfl (tgt := 15) (by decide) (fun h2 => ?_) (fun h2 => ?_)
      · exfalso
        first | exact hp1 h2 | exact (one_ne.mp h10) hp | exact hp1 (Decidable.not_not.mp h94) | exact hp1 h94
      · skip
        refine XG.blk tX9_weakest_ok 3 2 (pc' := 7) (pl' := [some (.ref 0), some (.int (nI x)), none, none]) (st' := [(.int (nI x)), (.ref 0)]) (W1 := (mW v a b)) (bs := []) rfl rfl rfl ?_
        refine XG.callV0 eX9_weakest_7 kl_X9_397 (con_isSleeper (d - 1) v a b (nI x) lv sp sl cr I (by omega)) (px_fitS (by omega)) rfl rfl rfl (Nat.le_of_ble_eq_true rfl) (fun r9 W9 hp9 hl9 => ?_)
        obtain ⟨rfl, rfl⟩ := hp9
        refine XG.br eX9_weakest_10 (P := ¬ (if px_vb (nI x) sl = true then 1 else 0) = 0) (r := []) rfl (tgt := 15) (by decide) (fun h10 => ?_) (fun h10 => ?_)
        · skip
          refine XG.blk tX9_weakest_ok 9 1 (pc' := 16) (pl' := [some (.ref 0), some (.int (nI x)), none, none]) (st' := [(.ref 0)]) (W1 := (mW v a b)) (bs := []) rfl rfl rfl ?_
          refine XG.callV0 eX9_weakest_16 kl_X9_400 (con_copQ (d - 1) v a b lv sp sl cr I) (px_fitS (by omega)) rfl rfl rfl (Nat.le_of_ble_eq_true rfl) (fun r9 W9 hp9 hl9 => ?_)
          obtain ⟨rfl, rfl⟩ := hp9
          refine XG.blk tX9_weakest_ok 11 5 (pc' := 26) (pl' := [some (.ref 0), some (.int (nI x)), some (.int (nI 0)), none]) (st' := []) (W1 := (mW (va_up (vQ v a lv 0) 64 (-1)) (aQ a) b)) (bs := []) rfl rfl rfl ?_
          refine px_for (5 ^ sl) (fun j => ∀ (v9 : Nat → Int32) (a9 : Nat → Nat → Int32) (hQ9 : Qs v v9 a a9) (hL9 : LO (a 54) sl (a9 55)) (h63 : v9 63 = (itN (wkF a lv sp sl cr) (v 63, -1) j).1) (h64 : v9 64 = (itN (wkF a lv sp sl cr) (v 63, -1) j).2), XG mX9_weakest _ 0 0 26 [some (.ref 0), some (.int (nI x)), some (.int (nI j)), none] [] (mW v9 a9 b)) ?_ ?_ 0 (Nat.zero_le _) _ _ (⟨(Qs.c (v := v) (a := a) (lv := lv) (q := 0) rfl rfl).1.tr (chg.up (by decide)), (Qs.c (v := v) (a := a) (lv := lv) (q := 0) rfl rfl).2⟩) LO.rf rfl rfl
          · intro v9 a9 hQ9 hL9 h63 h64
            have I9 := hQ9.MI I
            obtain ⟨hlv9, -, hsp9, -, -, hsl9, -, hcr9, -⟩ := id I9
            have q1 : (v9 18) = (nI lv) := hlv9
            have q2 : (nI lv).toNatClampNeg = lv := nI_clamp (by omega)
            have q3 : ((a9 24) lv) = (nI sl) := hsl9
            refine XG.blk tX9_weakest_ok 16 6 (pc' := 36) (pl' := [some (.ref 0), some (.int (nI x)), some (.int (nI (5 ^ sl))), none]) (st' := [(.int ((a9 24) (v9 18).toNatClampNeg)), (.int (nI (5 ^ sl)))]) (W1 := (mW v9 a9 b)) (bs := [px_vb (v9 18) 2]) rfl rfl (by (try simp only [q1, q2, q3]); exact (px_all (px_vbN (by omega) (by decide)) rfl)) ?_
            simp only [q1, q2, q3]
            refine XG.callSp (r := some (.int (nI (5 ^ sl)))) eX9_weakest_36 kl_X9_430 (con_fives (d - 1) sl (by omega)) (px_fitS (by omega)) rfl rfl rfl rfl (Nat.le_of_ble_eq_true rfl) ?_
            refine XG.br eX9_weakest_39 (P := (nI (5 ^ sl)) ≤ (nI (5 ^ sl))) (r := []) rfl (tgt := 92) (by decide) (fun h39 => ?_) (fun h39 => ?_)
            · skip
              have g39 : (5 ^ sl) ≤ (5 ^ sl) := (nI_leI (a := (5 ^ sl)) (b := (5 ^ sl)) (by omega) (by omega)).mp h39
              refine XG.blk tX9_weakest_ok 48 2 (pc' := 94) (pl' := [some (.ref 0), some (.int (nI x)), some (.int (nI (5 ^ sl))), none]) (st' := [(.int (-1)), (.int (nI x))]) (W1 := (mW v9 a9 b)) (bs := []) rfl rfl rfl ?_
              refine XG.br eX9_weakest_94 (P := ¬ (nI x) = (-1)) (r := []) rfl (tgt := 104) (by decide) (fun h94 => ?_) (fun h94 => ?_)
              · skip
                have q4 : (v9 64) = (nI w9) := h64.trans ew9
                have q5 : (v9 18) = (nI lv) := hlv9
                have q6 : (nI lv).toNatClampNeg = lv := nI_clamp (by omega)
                have q7 : ((a9 24) lv) = (nI sl) := hsl9
                have q8 : ((nI sl) - (nI 1)) = (nI (sl - 1)) := px_esub rfl rfl (by omega)
                have q9 : ((nI (sl - 1)) - (nI x)) = (nI ((sl - 1) - x)) := px_esub rfl rfl (by omega)
                refine XG.blk tX9_weakest_ok 54 11 (pc' := 121) (pl' := [some (.ref 0), some (.int (nI x)), some (.int (nI (5 ^ sl))), none]) (st' := [(.int ((((a9 24) (v9 18).toNatClampNeg) - (nI 1)) - (nI x))), (.int (v9 64))]) (W1 := (mW v9 a9 b)) (bs := [px_vb (v9 18) 2]) rfl rfl (by (try simp only [q4, q5, q6, q7, q8, q9]); exact (px_all (px_vbN (by omega) (by decide)) rfl)) ?_
                simp only [q4, q5, q6, q7, q8, q9]
                refine XG.callSp (r := some (.int (nI (5 ^ ((sl - 1) - x))))) eX9_weakest_121 kl_X9_430 (con_fives (d - 1) ((sl - 1) - x) (by omega)) (px_fitS (by omega)) rfl rfl rfl rfl (Nat.le_of_ble_eq_true rfl) ?_
                have q10 : (((nI w9) / (nI (5 ^ ((sl - 1) - x)))) - ((nI w9) / (nI (5 ^ ((sl - 1) - x)))) / (nI 5) * (nI 5)) = (nI (dig w9 ((sl - 1) - x))) := dig_eq (by omega) (by omega)
                refine XG.blk tX9_weakest_ok 66 3 (pc' := 127) (pl' := [some (.ref 0), some (.int (nI x)), some (.int (nI (5 ^ sl))), none]) (st' := [(.int (((nI w9) / (nI (5 ^ ((sl - 1) - x)))) - ((nI w9) / (nI (5 ^ ((sl - 1) - x)))) / (nI 5) * (nI 5)))]) (W1 := (mW v9 a9 b)) (bs := [!((nI (5 ^ ((sl - 1) - x))) == 0), !((nI 5) == 0)]) rfl rfl (by (try simp only [q10]); exact (px_all ((nz5 (by omega))) (px_all (rfl) rfl))) ?_
                simp only [q10]
                refine XS.iret eX9_weakest_127 rfl rfl ?_
                exact ⟨_, _, rfl, hQ9, rfl⟩
              · exfalso
                have h94 := Decidable.not_not.mp h94
                first | exact hp1 h2 | exact (one_ne.mp h10) hp | exact hp1 (Decidable.not_not.mp h94) | exact hp1 h94
            · exfalso
              have g39 : ¬ (5 ^ sl) ≤ (5 ^ sl) := (fun z => h39 ((nI_leI (a := (5 ^ sl)) (b := (5 ^ sl)) (by omega) (by omega)).mpr z))
              omega
          · intro j hj ihj v9 a9 hQ9 hL9 h63 h64
            have I9 := hQ9.MI I
            obtain ⟨hlv9, -, hsp9, -, -, hsl9, -, hcr9, -⟩ := id I9
            have q11 : (v9 18) = (nI lv) := hlv9
            have q12 : (nI lv).toNatClampNeg = lv := nI_clamp (by omega)
            have q13 : ((a9 24) lv) = (nI sl) := hsl9
            refine XG.blk tX9_weakest_ok 16 6 (pc' := 36) (pl' := [some (.ref 0), some (.int (nI x)), some (.int (nI j)), none]) (st' := [(.int ((a9 24) (v9 18).toNatClampNeg)), (.int (nI j))]) (W1 := (mW v9 a9 b)) (bs := [px_vb (v9 18) 2]) rfl rfl (by (try simp only [q11, q12, q13]); exact (px_all (px_vbN (by omega) (by decide)) rfl)) ?_
            simp only [q11, q12, q13]
            refine XG.callSp (r := some (.int (nI (5 ^ sl)))) eX9_weakest_36 kl_X9_430 (con_fives (d - 1) sl (by omega)) (px_fitS (by omega)) rfl rfl rfl rfl (Nat.le_of_ble_eq_true rfl) ?_
            refine XG.br eX9_weakest_39 (P := (nI (5 ^ sl)) ≤ (nI j)) (r := []) rfl (tgt := 92) (by decide) (fun h39 => ?_) (fun h39 => ?_)
            · exfalso
              have g39 : (5 ^ sl) ≤ j := (nI_leI (a := (5 ^ sl)) (b := j) (by omega) (by omega)).mp h39
              omega
            · skip
              have g39 : ¬ (5 ^ sl) ≤ j := (fun z => h39 ((nI_leI (a := (5 ^ sl)) (b := j) (by omega) (by omega)).mpr z))
              refine XG.blk tX9_weakest_ok 24 2 (pc' := 44) (pl' := [some (.ref 0), some (.int (nI x)), some (.int (nI j)), none]) (st' := [(.int (nI j)), (.ref 0)]) (W1 := (mW v9 a9 b)) (bs := []) rfl rfl rfl ?_
              refine XG.callV0 eX9_weakest_44 kl_X9_436 (con_lieQ (d - 1) v v9 a a9 b hQ9 lv sp sl cr I hL9 j (by omega) (by omega)) (px_fitS (by omega)) rfl rfl rfl (Nat.le_of_ble_eq_true rfl) (fun r9 W9 hp9 hl9 => ?_)
              obtain ⟨v21, a21, rfl, hQ21, hv21, hL21, ho21, rfl⟩ := hp9
              refine XG.br eX9_weakest_47 (P := ¬ (if okW sl sp j then 1 else 0) = 0) (r := []) rfl (tgt := 53) (by decide) (fun h47 => ?_) (fun h47 => ?_)
              · skip
                have ok9 : okW sl sp j := Decidable.not_not.mp (fun z => h47 (one_ne.mpr z))
                refine XG.blk tX9_weakest_ok 29 1 (pc' := 54) (pl' := [some (.ref 0), some (.int (nI x)), some (.int (nI j)), none]) (st' := [(.ref 0)]) (W1 := (mW v21 a21 b)) (bs := []) rfl rfl rfl ?_
                refine XG.callV0 eX9_weakest_54 kl_X9_427 (con_leP (d - 1) v v21 a a21 b hQ21 (lyF (a 54) sl sl j) (ho21 ok9) lv sp sl cr I hwf (by omega)) (px_fitS (by omega)) rfl rfl rfl (Nat.le_of_ble_eq_true rfl) (fun r9 W9 hp9 hl9 => ?_)
                obtain ⟨v22, a22, rfl, hQ22, hv22, h55_22, rfl⟩ := hp9
                have q14 : (v22 64) = (itN (wkF a lv sp sl cr) (v 63, -1) j).2 := (hv22 64 (by decide)).trans ((hv21 64 (by decide)).trans h64)
                refine XG.blk tX9_weakest_ok 31 3 (pc' := 62) (pl' := [some (.ref 0), some (.int (nI x)), some (.int (nI j)), some (.int (wkV a lv sp sl cr j))]) (st' := [(.int (v22 64))]) (W1 := (mW v22 a22 b)) (bs := []) rfl rfl rfl ?_
                simp only [q14]
                refine XG.br eX9_weakest_62 (P := (itN (wkF a lv sp sl cr) (v 63, -1) j).2 < 0) (r := []) rfl (tgt := 76) (by decide) (fun h62 => ?_) (fun h62 => ?_)
                · skip
                  have q15 : ((nI j) + (nI 1)) = (nI (j + 1)) := px_eadd rfl rfl
                  refine XG.blk tX9_weakest_ok 40 7 (pc' := 89) (pl' := [some (.ref 0), some (.int (nI x)), some (.int ((nI j) + (nI 1))), some (.int (wkV a lv sp sl cr j))]) (st' := []) (W1 := (mW (va_up (va_up v22 63 (wkV a lv sp sl cr j)) 64 (nI j)) a22 b)) (bs := []) rfl rfl rfl ?_
                  simp only [q15]
                  refine XG.goto eX9_weakest_89 (tgt := 26) (by decide) ?_
                  rw [show (itN (wkF a lv sp sl cr) (v 63, -1) (j + 1)) = (wkV a lv sp sl cr j, nI j) from if_pos ⟨ok9, Or.inl h62⟩] at ihj
                  refine XG.weak (pl' := [some (.ref 0), some (.int (nI x)), some (.int (nI (j + 1))), none]) ⟨rfl, rfl, rfl, trivial⟩ ?_
                  exact ihj (va_up (va_up v22 63 (wkV a lv sp sl cr j)) 64 (nI j)) a22 ⟨hQ22.1.tr (chg.up (by decide)) |>.tr (chg.up (by decide)), hQ22.2⟩ (by show LO _ _ (a22 55); rw [h55_22]; exact lyF_LO LO.rf (Nat.le_refl _)) rfl rfl
                · skip
                  have q16 : (v22 63) = (itN (wkF a lv sp sl cr) (v 63, -1) j).1 := (hv22 63 (by decide)).trans ((hv21 63 (by decide)).trans h63)
                  refine XG.blk tX9_weakest_ok 35 3 (pc' := 70) (pl' := [some (.ref 0), some (.int (nI x)), some (.int (nI j)), some (.int (wkV a lv sp sl cr j))]) (st' := [(.int (v22 63)), (.int (wkV a lv sp sl cr j))]) (W1 := (mW v22 a22 b)) (bs := []) rfl rfl rfl ?_
                  simp only [q16]
                  refine XG.br eX9_weakest_70 (P := (itN (wkF a lv sp sl cr) (v 63, -1) j).1 < (wkV a lv sp sl cr j)) (r := []) rfl (tgt := 76) (by decide) (fun h70 => ?_) (fun h70 => ?_)
                  · skip
                    have q17 : ((nI j) + (nI 1)) = (nI (j + 1)) := px_eadd rfl rfl
                    refine XG.blk tX9_weakest_ok 40 7 (pc' := 89) (pl' := [some (.ref 0), some (.int (nI x)), some (.int ((nI j) + (nI 1))), some (.int (wkV a lv sp sl cr j))]) (st' := []) (W1 := (mW (va_up (va_up v22 63 (wkV a lv sp sl cr j)) 64 (nI j)) a22 b)) (bs := []) rfl rfl rfl ?_
                    simp only [q17]
                    refine XG.goto eX9_weakest_89 (tgt := 26) (by decide) ?_
                    rw [show (itN (wkF a lv sp sl cr) (v 63, -1) (j + 1)) = (wkV a lv sp sl cr j, nI j) from if_pos ⟨ok9, Or.inr h70⟩] at ihj
                    refine XG.weak (pl' := [some (.ref 0), some (.int (nI x)), some (.int (nI (j + 1))), none]) ⟨rfl, rfl, rfl, trivial⟩ ?_
                    exact ihj (va_up (va_up v22 63 (wkV a lv sp sl cr j)) 64 (nI j)) a22 ⟨hQ22.1.tr (chg.up (by decide)) |>.tr (chg.up (by decide)), hQ22.2⟩ (by show LO _ _ (a22 55); rw [h55_22]; exact lyF_LO LO.rf (Nat.le_refl _)) rfl rfl
                  · skip
                    refine XG.goto eX9_weakest_73 (tgt := 86) (by decide) ?_
                    have q18 : ((nI j) + (nI 1)) = (nI (j + 1)) := px_eadd rfl rfl
                    refine XG.blk tX9_weakest_ok 46 1 (pc' := 89) (pl' := [some (.ref 0), some (.int (nI x)), some (.int ((nI j) + (nI 1))), some (.int (wkV a lv sp sl cr j))]) (st' := []) (W1 := (mW v22 a22 b)) (bs := []) rfl rfl rfl ?_
                    simp only [q18]
                    refine XG.goto eX9_weakest_89 (tgt := 26) (by decide) ?_
                    rw [show (itN (wkF a lv sp sl cr) (v 63, -1) (j + 1)) = (itN (wkF a lv sp sl cr) (v 63, -1) j) from if_neg (fun hc => hc.2.elim h62 h70)] at ihj
                    refine XG.weak (pl' := [some (.ref 0), some (.int (nI x)), some (.int (nI (j + 1))), none]) ⟨rfl, rfl, rfl, trivial⟩ ?_
                    exact ihj v22 a22 hQ22 (by rw [h55_22]; exact lyF_LO LO.rf (Nat.le_refl _)) ((hv22 63 (by decide)).trans ((hv21 63 (by decide)).trans h63)) ((hv22 64 (by decide)).trans ((hv21 64 (by decide)).trans h64))
              · skip
                have h47 := Decidable.not_not.mp h47
                refine XG.goto eX9_weakest_50 (tgt := 86) (by decide) ?_
                have q19 : ((nI j) + (nI 1)) = (nI (j + 1)) := px_eadd rfl rfl
                refine XG.blk tX9_weakest_ok 46 1 (pc' := 89) (pl' := [some (.ref 0), some (.int (nI x)), some (.int ((nI j) + (nI 1))), none]) (st' := []) (W1 := (mW v21 a21 b)) (bs := []) rfl rfl rfl ?_
                simp only [q19]
                refine XG.goto eX9_weakest_89 (tgt := 26) (by decide) ?_
                rw [show (itN (wkF a lv sp sl cr) (v 63, -1) (j + 1)) = (itN (wkF a lv sp sl cr) (v 63, -1) j) from if_neg (fun hc => (one_ne.mp h47) hc.1)] at ihj
                exact ihj v21 a21 hQ21 hL21 ((hv21 63 (by decide)).trans h63) ((hv21 64 (by decide)).trans h64)
        · exfalso
          have h10 := Decidable.not_not.mp h10
          first | exact hp1 h2 | exact (one_ne.mp h10) hp | exact hp1 (Decidable.not_not.mp h94) | exact hp1 h94
    · have eA : qWeak (v 63) a lv sp sl cr p = -1 := by unfold qWeak; rw [if_neg hp1, if_neg hp]
      simp only [eA]
      refine XG.blk tX9_weakest_ok 0 2 (pc' := 2) (pl' := [some (.ref 0), some (.int p), none, none]) (st' := [(.int (-1)), (.int p)]) (W1 := (mW v a b)) (bs := []) rfl rfl rfl ?_
      refine XG.br eX9_weakest_2 (P := p = (-1)) (r := []) rfl (tgt := 15) (by decide) (fun h2 => ?_) (fun h2 => ?_)
      · exfalso
        first | exact hp1 h2 | exact absurd (vb_of h10) hp
      · skip
        refine XG.blk tX9_weakest_ok 3 2 (pc' := 7) (pl' := [some (.ref 0), some (.int p), none, none]) (st' := [(.int p), (.ref 0)]) (W1 := (mW v a b)) (bs := []) rfl rfl rfl ?_
        refine XG.callV0 eX9_weakest_7 kl_X9_397 (con_isSleeper (d - 1) v a b p lv sp sl cr I (by omega)) (px_fitS (by omega)) rfl rfl rfl (Nat.le_of_ble_eq_true rfl) (fun r9 W9 hp9 hl9 => ?_)
        obtain ⟨rfl, rfl⟩ := hp9
        refine XG.br eX9_weakest_10 (P := ¬ (if px_vb p sl = true then 1 else 0) = 0) (r := []) rfl (tgt := 15) (by decide) (fun h10 => ?_) (fun h10 => ?_)
        · exfalso
          first | exact hp1 h2 | exact absurd (vb_of h10) hp
        · skip
          have h10 := Decidable.not_not.mp h10
          refine XG.blk tX9_weakest_ok 7 1 (pc' := 14) (pl' := [some (.ref 0), some (.int p), none, none]) (st' := [(.int (-1))]) (W1 := (mW v a b)) (bs := []) rfl rfl rfl ?_
          refine XS.iret eX9_weakest_14 rfl rfl ?_
          exact ⟨_, _, rfl, Qs.rf, rfl⟩
