/-! the reference: names of sleepers, ends of tells -/
def fnX (nl : NmL) (y : List Nat) : Int32 := match fndNm nl y with
  | some j => nI j
  | none => -1
theorem fnX_no {nl : NmL} {y : List Nat} (h : fndNm nl y = none) : fnX nl y = -1 := by unfold fnX; rw [h]
theorem fnX_yes {nl : NmL} {y : List Nat} {j : Nat} (h : fndNm nl y = some j) : fnX nl y = nI j := by unfold fnX; rw [h]
set_option maxHeartbeats 400000 in
theorem con_knownSleeper (d : Nat) (v : Nat → Int32) (a : Nat → Nat → Int32) (b : Nat → Nat → Int64) (K : TKS) (hT : Tok K a b) (r : PE ⊕ PT) (h : PVr K r v) (nl : NmL) (hN : NmR nl v a b) (hd : 3 ≤ d) : Con mX9_knownSleeper d [.ref 0] (mW v a b) (fun q W' => ∃ v' x, W' = mW v' a b ∧ chg [11, 13, 14, 15, 16] v v' ∧ PVr K (bd r (knwS K nl)) v' ∧ q = some (.int x) ∧ (∀ s, r = .inr s → ∀ s1, mstS K 1 s = .inr s1 → x = fnX nl (K.2.2.2 s.1)) ∧ (∀ e, bd r (mstS K 1) = .inl e → x = -1)) := by
  obtain ⟨t, ht, h11⟩ := h.t
  have hN2 := hN.2.1
  refine Con.of (by decide) (Nat.le_of_ble_eq_true rfl) ?_
  have q1 : (v 11) = (nI t) := h11
  refine XG.blk tX9_knownSleeper_ok 0 5 (pc' := 7) (pl' := [some (.ref 0), some (.int (v 11)), none]) (st' := [(.int (nI 1)), (.ref 0)]) (W1 := (mW v a b)) (bs := []) rfl rfl rfl ?_
  simp only [q1]
  refine XG.callV0 eX9_knownSleeper_7 kl_X9_277 (con_must (d - 1) v a b K hT r h 1 (by omega) (by omega) (by omega)) (px_fitS (by omega)) rfl rfl rfl (Nat.le_of_ble_eq_true rfl) (fun r9 W9 hp9 hl9 => ?_)
  obtain ⟨v1, rfl, hc1, hP1, rfl⟩ := hp9
  have h20 : v1 20 = nI nl.length := (hc1 20 (by decide)).trans hN.1
  cases hr1 : bd r (mstS K 1) with
  | inl e =>
    rw [hr1] at hP1
    have hx13 : ¬ v1 13 ≤ 0 := by rw [hP1.2.1]; exact Int32.not_le.mpr (n1_pos (by have := hP1.1; omega) (by have := hP1.1; omega))
    refine XG.blk tX9_knownSleeper_ok 6 2 (pc' := 14) (pl' := [some (.ref 0), some (.int (nI t)), none]) (st' := [(.int (v1 13))]) (W1 := (mW v1 a b)) (bs := []) rfl rfl rfl ?_
    refine XG.br eX9_knownSleeper_14 (P := (v1 13) ≤ 0) (r := []) rfl (tgt := 19) (by decide) (fun h14 => ?_) (fun h14 => ?_)
    · exfalso
      first | exact hx13 h14 | exact h14 hx13
    · skip
      refine XG.blk tX9_knownSleeper_ok 9 1 (pc' := 18) (pl' := [some (.ref 0), some (.int (nI t)), none]) (st' := [(.int (-1))]) (W1 := (mW v1 a b)) (bs := []) rfl rfl rfl ?_
      refine XS.iret eX9_knownSleeper_18 rfl rfl ?_
      exact ⟨v1, _, rfl, hc1.mono (by decide), by unfold knwS; rw [bd_nm _ hr1]; exact hP1, rfl, (fun s9 e9 s1 e1 => by subst e9; rw [show mstS K 1 s9 = .inl _ from hr1] at e1; cases e1), fun _ _ => rfl⟩
  | inr s1 =>
    rw [hr1] at hP1
    obtain ⟨s, rfl, hk1, h400, rfl⟩ := bdm_inr hr1
    obtain rfl : s.1 = t := (nI_eq (by have := h.1; omega) (by omega)).mp (h.2.1.symm.trans h11)
    have hK := hT s.1 h.1 h.2.2.2.1
    have hKn := hT (s.1 + 1) hP1.1 hP1.2.2.2.1
    have hlt := hK.2.2.2.2.2.2.2 (by omega)
    have h8 := hK.2.2.2.1 hk1
    have hx13 : v1 13 ≤ 0 := by rw [hP1.2.2.1]; decide
    refine XG.blk tX9_knownSleeper_ok 6 2 (pc' := 14) (pl' := [some (.ref 0), some (.int (nI s.1)), none]) (st' := [(.int (v1 13))]) (W1 := (mW v1 a b)) (bs := []) rfl rfl rfl ?_
    refine XG.br eX9_knownSleeper_14 (P := (v1 13) ≤ 0) (r := []) rfl (tgt := 19) (by decide) (fun h14 => ?_) (fun h14 => ?_)
    · skip
      refine XG.blk tX9_knownSleeper_ok 11 2 (pc' := 21) (pl' := [some (.ref 0), some (.int (nI s.1)), some (.int (nI 0))]) (st' := []) (W1 := (mW v1 a b)) (bs := []) rfl rfl rfl ?_
      refine px_for nl.length (fun i => ∀ (hF : fndNm (nl.drop i) (K.2.2.2 s.1) = fndNm nl (K.2.2.2 s.1)), XG mX9_knownSleeper _ 0 0 21 [some (.ref 0), some (.int (nI s.1)), some (.int (nI i))] [] (mW v1 a b)) ?_ ?_ 0 (Nat.zero_le _) rfl
      · intro hF
        have q2 : (v1 20) = (nI nl.length) := h20
        refine XG.blk tX9_knownSleeper_ok 13 3 (pc' := 26) (pl' := [some (.ref 0), some (.int (nI s.1)), some (.int (nI nl.length))]) (st' := [(.int (v1 20)), (.int (nI nl.length))]) (W1 := (mW v1 a b)) (bs := []) rfl rfl rfl ?_
        simp only [q2]
        refine XG.br eX9_knownSleeper_26 (P := (nI nl.length) ≤ (nI nl.length)) (r := []) rfl (tgt := 67) (by decide) (fun h26 => ?_) (fun h26 => ?_)
        · skip
          have g26 : nl.length ≤ nl.length := (nI_leI (a := nl.length) (b := nl.length) (by omega) (by omega)).mp h26
          refine XG.blk tX9_knownSleeper_ok 39 3 (pc' := 70) (pl' := [some (.ref 0), some (.int (nI s.1)), some (.int (nI nl.length))]) (st' := [(.int (nI s.1)), (.int (nI 4)), (.ref 0)]) (W1 := (mW v1 a b)) (bs := []) rfl rfl rfl ?_
          refine XG.callV0 eX9_knownSleeper_70 kl_X9_263 (con_wrong (d - 1) v1 a b s.1 (by omega) (nI 4)) (px_fitS (by omega)) rfl rfl rfl (Nat.le_of_ble_eq_true rfl) (fun r9 W9 hp9 hl9 => ?_)
          obtain ⟨rfl, rfl⟩ := hp9
          refine XG.blk tX9_knownSleeper_ok 43 1 (pc' := 74) (pl' := [some (.ref 0), some (.int (nI s.1)), some (.int (nI nl.length))]) (st' := [(.int (-1))]) (W1 := (mW (wrgV v1 (a 6 s.1) (nI 4)) a b)) (bs := []) rfl rfl rfl ?_
          refine XS.iret eX9_knownSleeper_74 rfl rfl ?_
          rw [List.drop_length] at hF
          have hF : none = fndNm nl (K.2.2.2 s.1) := hF
          refine ⟨_, _, rfl, (hc1.mono (by decide)).tr (wrgV_chg.mono (by decide)), ?_, rfl, fun s9 e9 _ _ => (by cases e9; rw [fnX_no hF.symm]), fun e9 h9 => by cases h9⟩
          show PVr K (bd (mstS K 1 s) _) _
          rw [show mstS K 1 s = .inr (s.1 + 1, s.2) from hr1]
          show PVr K (.inr (_, if _ then _ else _)) _
          rw [← hF, if_neg (by decide), hK.2.1]
          exact hP1.note hlt hKn.2.2.2.2.2.1 (by decide) (fun y hy => Or.inl (PVr.w (t := s.1) (w := s.2) h y hy))
        · exfalso
          have g26 : ¬ nl.length ≤ nl.length := (fun z => h26 ((nI_leI (a := nl.length) (b := nl.length) (by omega) (by omega)).mpr z))
          omega
      · intro i hi ihi hF
        obtain ⟨e, he⟩ : ∃ e, nl[i]? = some e := ⟨nl[i], List.getElem?_eq_getElem hi⟩
        have hE := hN.2.2 i e he
        have hdr : nl.drop i = e :: nl.drop (i + 1) := by rw [List.drop_eq_getElem_cons hi]; congr 1; exact Option.some.inj ((List.getElem?_eq_getElem hi).symm.trans he)
        have q3 : (v1 20) = (nI nl.length) := h20
        refine XG.blk tX9_knownSleeper_ok 13 3 (pc' := 26) (pl' := [some (.ref 0), some (.int (nI s.1)), some (.int (nI i))]) (st' := [(.int (v1 20)), (.int (nI i))]) (W1 := (mW v1 a b)) (bs := []) rfl rfl rfl ?_
        simp only [q3]
        refine XG.br eX9_knownSleeper_26 (P := (nI nl.length) ≤ (nI i)) (r := []) rfl (tgt := 67) (by decide) (fun h26 => ?_) (fun h26 => ?_)
        · exfalso
          have g26 : nl.length ≤ i := (nI_leI (a := nl.length) (b := i) (by omega) (by omega)).mp h26
          omega
        · skip
          have g26 : ¬ nl.length ≤ i := (fun z => h26 ((nI_leI (a := nl.length) (b := i) (by omega) (by omega)).mpr z))
          have q4 : (nI i).toNatClampNeg = i := nI_clamp (by omega)
          have q5 : (nI s.1).toNatClampNeg = s.1 := nI_clamp (by omega)
          refine XG.blk tX9_knownSleeper_ok 17 9 (pc' := 42) (pl' := [some (.ref 0), some (.int (nI s.1)), some (.int (nI i))]) (st' := [(.int (lg_cmp ((b 21) (nI i).toNatClampNeg) ((b 8) (nI s.1).toNatClampNeg)))]) (W1 := (mW v1 a b)) (bs := [px_vb (nI i) 11, px_vb (nI s.1) 403]) rfl rfl (by (try simp only [q4, q5]); exact (px_all (px_vbN (by omega) (by decide)) (px_all (px_vbN (by omega) (by decide)) rfl))) ?_
          simp only [q4, q5]
          refine XG.br eX9_knownSleeper_42 (P := ¬ (lg_cmp ((b 21) i) ((b 8) s.1)) = 0) (r := []) rfl (tgt := 61) (by decide) (fun h42 => ?_) (fun h42 => ?_)
          · skip
            have q6 : ((nI i) + (nI 1)) = (nI (i + 1)) := px_eadd rfl rfl
            refine XG.blk tX9_knownSleeper_ok 37 1 (pc' := 64) (pl' := [some (.ref 0), some (.int (nI s.1)), some (.int ((nI i) + (nI 1)))]) (st' := []) (W1 := (mW v1 a b)) (bs := []) rfl rfl rfl ?_
            simp only [q6]
            refine XG.goto eX9_knownSleeper_64 (tgt := 21) (by decide) ?_
            refine ihi ?_
            rw [← hF, hdr]
            have hq : ¬ e.1 = K.2.2.2 s.1 := fun z => h42 (cmp_eq.mpr (by rw [hE.2.1, h8.1, z]))
            conv => rhs; unfold fndNm
            cases e.2 with
            | none => rfl
            | some j => exact (if_neg hq).symm
          · skip
            have h42 := Decidable.not_not.mp h42
            have q7 : (nI i).toNatClampNeg = i := nI_clamp (by omega)
            refine XG.blk tX9_knownSleeper_ok 27 4 (pc' := 51) (pl' := [some (.ref 0), some (.int (nI s.1)), some (.int (nI i))]) (st' := [(.int ((a 22) (nI i).toNatClampNeg))]) (W1 := (mW v1 a b)) (bs := [px_vb (nI i) 11]) rfl rfl (by (try simp only [q7]); exact (px_all (px_vbN (by omega) (by decide)) rfl)) ?_
            simp only [q7]
            refine XG.br eX9_knownSleeper_51 (P := ((a 22) i) < 0) (r := []) rfl (tgt := 61) (by decide) (fun h51 => ?_) (fun h51 => ?_)
            · skip
              have q8 : ((nI i) + (nI 1)) = (nI (i + 1)) := px_eadd rfl rfl
              refine XG.blk tX9_knownSleeper_ok 37 1 (pc' := 64) (pl' := [some (.ref 0), some (.int (nI s.1)), some (.int ((nI i) + (nI 1)))]) (st' := []) (W1 := (mW v1 a b)) (bs := []) rfl rfl rfl ?_
              simp only [q8]
              refine XG.goto eX9_knownSleeper_64 (tgt := 21) (by decide) ?_
              refine ihi ?_
              rw [← hF, hdr]
              conv => rhs; unfold fndNm
              cases h2 : e.2 with
              | none => rfl
              | some j => exfalso; have h3 := hE.2.2.1; rw [h2] at h3; have h4 := hE.2.2.2 j h2; rw [h3] at h51; exact absurd h51 (nI_nn (by omega))
            · skip
              have q9 : (nI i).toNatClampNeg = i := nI_clamp (by omega)
              refine XG.blk tX9_knownSleeper_ok 32 4 (pc' := 60) (pl' := [some (.ref 0), some (.int (nI s.1)), some (.int (nI i))]) (st' := [(.int ((a 22) (nI i).toNatClampNeg))]) (W1 := (mW v1 a b)) (bs := [px_vb (nI i) 11]) rfl rfl (by (try simp only [q9]); exact (px_all (px_vbN (by omega) (by decide)) rfl)) ?_
              simp only [q9]
              refine XS.iret eX9_knownSleeper_60 rfl rfl ?_
              have hq : e.1 = K.2.2.2 s.1 := (hE.1.eq h8.2).mp (by rw [← hE.2.1, ← h8.1]; exact cmp_eq.mp h42)
              obtain ⟨j, hj⟩ : ∃ j, e.2 = some j := by
                cases h2 : e.2 with
                | some j => exact ⟨j, rfl⟩
                | none => exfalso; have h3 := hE.2.2.1; rw [h2] at h3; exact h51 (by rw [h3]; decide)
              have hF2 : fndNm nl (K.2.2.2 s.1) = some j := by rw [← hF, hdr]; unfold fndNm; rw [hj]; exact if_pos hq
              have h22 : a 22 i = nI j := by rw [hE.2.2.1, hj]
              refine ⟨_, _, rfl, hc1.mono (by decide), ?_, rfl, fun s9 e9 _ _ => (by cases e9; rw [fnX_yes hF2, h22]), fun e9 h9 => by cases h9⟩
              show PVr K (bd (mstS K 1 s) _) _
              rw [show mstS K 1 s = .inr (s.1 + 1, s.2) from hr1]
              show PVr K (.inr (_, if _ then _ else _)) _
              rw [hF2, if_pos (show (some j).isSome = true from rfl)]
              exact hP1
    · exfalso
      first | exact hx13 h14 | exact h14 hx13
set_option maxHeartbeats 400000 in
theorem con_ends (d : Nat) (v : Nat → Int32) (a : Nat → Nat → Int32) (b : Nat → Nat → Int64) (K : TKS) (hT : Tok K a b) (r : PE ⊕ PT) (h : PVr K r v) (nl : NmL) (hN : NmR nl v a b) (hn : nl.length ≤ 10) (q0 : Nat) (hq0 : q0 ≤ 400) (y : Int32) (hd : 3 ≤ d) : Con mX9_ends d [.ref 0, .int (nI q0), .int y] (mW v a b) (fun q W' => q = none ∧ ∃ v', chg [11, 13, 14] v v' ∧ PVr K (bd r (mstS K 4)) v' ∧ ((∃ e, bd r (mstS K 4) = .inl e ∧ W' = mW v' a b) ∨ (∃ s, bd r (mstS K 4) = .inr s ∧ W' = mW (va_up v' 20 (nI (nl.length + 1))) (va_up a 22 (upd (a 22) nl.length y)) (va_up b 21 (vp_updL (b 21) nl.length (b 8 q0)))))) := by
  refine Con.of (by decide) (Nat.le_of_ble_eq_true rfl) ?_
  refine XG.blk tX9_ends_ok 0 2 (pc' := 2) (pl' := [some (.ref 0), some (.int (nI q0)), some (.int y)]) (st' := [(.int (nI 4)), (.ref 0)]) (W1 := (mW v a b)) (bs := []) rfl rfl rfl ?_
  refine XG.callV0 eX9_ends_2 kl_X9_277 (con_must (d - 1) v a b K hT r h 4 (by omega) (by omega) (by omega)) (px_fitS (by omega)) rfl rfl rfl (Nat.le_of_ble_eq_true rfl) (fun r9 W9 hp9 hl9 => ?_)
  obtain ⟨v1, rfl, hc1, hP1, rfl⟩ := hp9
  have h20 : v1 20 = nI nl.length := (hc1 20 (by decide)).trans hN.1
  cases hr1 : bd r (mstS K 4) with
  | inl e =>
    rw [hr1] at hP1
    have hx13 : ¬ v1 13 ≤ 0 := by rw [hP1.2.1]; exact Int32.not_le.mpr (n1_pos (by have := hP1.1; omega) (by have := hP1.1; omega))
    refine XG.blk tX9_ends_ok 3 2 (pc' := 9) (pl' := [some (.ref 0), some (.int (nI q0)), some (.int y)]) (st' := [(.int (v1 13))]) (W1 := (mW v1 a b)) (bs := []) rfl rfl rfl ?_
    refine XG.br eX9_ends_9 (P := (v1 13) ≤ 0) (r := []) rfl (tgt := 13) (by decide) (fun h9 => ?_) (fun h9 => ?_)
    · exfalso
      first | exact hx13 h9 | exact h9 hx13
    · skip
      refine XS.vret eX9_ends_12 rfl ?_
      exact ⟨rfl, v1, hc1, hP1, Or.inl ⟨e, rfl, rfl⟩⟩
  | inr s =>
    rw [hr1] at hP1
    have hx13 : v1 13 ≤ 0 := by rw [hP1.2.2.1]; decide
    refine XG.blk tX9_ends_ok 3 2 (pc' := 9) (pl' := [some (.ref 0), some (.int (nI q0)), some (.int y)]) (st' := [(.int (v1 13))]) (W1 := (mW v1 a b)) (bs := []) rfl rfl rfl ?_
    refine XG.br eX9_ends_9 (P := (v1 13) ≤ 0) (r := []) rfl (tgt := 13) (by decide) (fun h9 => ?_) (fun h9 => ?_)
    · skip
      have q1 : (v1 20) = (nI nl.length) := h20
      have q2 : (nI q0).toNatClampNeg = q0 := nI_clamp (by omega)
      have q3 : (nI nl.length).toNatClampNeg = nl.length := nI_clamp (by omega)
      have q4 : ((nI nl.length) + (nI 1)) = (nI (nl.length + 1)) := px_eadd rfl rfl
      refine XG.blk tX9_ends_ok 7 21 (pc' := 48) (pl' := [some (.ref 0), some (.int (nI q0)), some (.int y)]) (st' := []) (W1 := (mW (va_up v1 20 ((v1 20) + (nI 1))) (va_up a 22 (upd (a 22) (v1 20).toNatClampNeg y)) (va_up b 21 (vp_updL (b 21) (v1 20).toNatClampNeg ((b 8) (nI q0).toNatClampNeg))))) (bs := [px_vb (nI q0) 403, px_vb (v1 20) 11, px_vb (v1 20) 11]) rfl rfl (by (try simp only [q1, q2, q3, q4]); exact (px_all (px_vbN (by omega) (by decide)) (px_all (px_vbN (by omega) (by decide)) (px_all (px_vbN (by omega) (by decide)) rfl)))) ?_
      simp only [q1, q2, q3, q4]
      refine XS.vret eX9_ends_48 rfl ?_
      exact ⟨rfl, v1, hc1, hP1, Or.inr ⟨s, rfl, rfl⟩⟩
    · exfalso
      first | exact hx13 h9 | exact h9 hx13
