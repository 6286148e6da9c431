/-! the reference: numbers, names -/
theorem PVr.note {K : TKS} {t : Nat} {w : Option PE} {v : Nat → Int32} {k p : Nat} (h : PVr K (.inr (t, w)) v) (hp : p < K.2.1 t) (hp2 : K.2.1 t ≤ 2000) (hk : 3 ≤ k ∧ k ≤ 5) (hw : ∀ x, w = some x → x.2 < p ∨ (x.2 = p ∧ x.1 ≤ k)) : PVr K (.inr (t, noteS w k p)) (wrgV v (nI p) (nI k)) := by
  obtain ⟨h1, h2, h3, h4, h5⟩ := h
  cases w with
  | none =>
    rw [wrgV_none h3 h5]
    exact ⟨h1, h2, h3, h4, rfl, rfl, hk.1, hk.2, hp⟩
  | some x =>
    rw [wrgV_some (x1 := x.1) (x2 := x.2) h5.1 h5.2.1 ⟨h5.2.2.1, h5.2.2.2.1⟩ (by omega) hk.2 (hw x rfl)]
    exact ⟨h1, h2, h3, h4, h5⟩
theorem PVr.w {K : TKS} {t : Nat} {w : Option PE} {v : Nat → Int32} (h : PVr K (.inr (t, w)) v) : ∀ x, w = some x → x.2 < K.2.1 t := by
  intro x e
  subst e
  exact h.2.2.2.2.2.2.2.2
/-- a number that is not as told: noted, then on -/
theorem PVr.ngo {K : TKS} {s : PT} {v : Nat → Int32} {a : Nat → Nat → Int32} {b : Nat → Nat → Int64} (h : PVr K (.inr s) v) (hT : Tok K a b) (hk : K.1 s.1 ≠ 0) : PVr K (advS (s.1, noteS s.2 5 (K.2.1 s.1))) (goV (wrgV v (a 6 s.1) (nI 5)) (a 6) s.1) := by
  have hK := hT s.1 h.1 h.2.2.2.1
  rw [hK.2.1]
  have hlt := hK.2.2.2.2.2.2.2 hk
  obtain ⟨h1, h2, h3, h4, h5⟩ := h
  have e : ∃ v1, v1 = wrgV v (nI (K.2.1 s.1)) (nI 5) ∧ v1 11 = nI s.1 ∧ v1 13 = nI 0 ∧ wRep K (s.1 + 1) (noteS s.2 5 (K.2.1 s.1)) v1 := by
    refine ⟨_, rfl, ?_, ?_, ?_⟩
    · rw [wrgV_chg 11 (by decide)]; exact h2
    · rw [wrgV_chg 13 (by decide)]; exact h3
    · cases hs : s.2 with
      | none =>
        rw [hs] at h5
        rw [wrgV_none h3 h5]
        exact ⟨rfl, rfl, by show 3 ≤ 5; decide, by show 5 ≤ 5; decide, hlt⟩
      | some x =>
        rw [hs] at h5
        rw [wrgV_some (x1 := x.1) (x2 := x.2) h5.1 h5.2.1 ⟨h5.2.2.1, h5.2.2.2.1⟩ (by omega) (by decide) (Or.inl h5.2.2.2.2)]
        exact ⟨h5.1, h5.2.1, h5.2.2.1, h5.2.2.2.1, Nat.lt_trans h5.2.2.2.2 hlt⟩
  obtain ⟨v1, hv, e11, e13, ew⟩ := e
  rw [← hv]
  unfold advS advN goV
  by_cases h9 : s.1 = 400
  · show PVr K (bd (if s.1 = 400 then _ else _) _) _
    rw [if_pos h9, if_pos h9]
    unfold failV
    rw [if_neg (by rw [e13]; exact n0_npos)]
    refine ⟨Or.inr rfl, rfl, ?_, s.1, h1, e11⟩
    show a 6 s.1 = nI (K.2.1 400)
    rw [hK.2.1, h9]
  · show PVr K (bd (if s.1 = 400 then _ else _) _) _
    rw [if_neg h9, if_neg h9]
    refine ⟨by show s.1 + 1 ≤ 400; omega, rfl, e13, h4.s hk, ?_⟩
    cases hw : noteS s.2 5 (K.2.1 s.1) with
    | none => rw [hw] at ew; exact ew
    | some x => rw [hw] at ew; exact ew
set_option maxHeartbeats 400000 in
theorem con_bounded (d : Nat) (v : Nat → Int32) (a : Nat → Nat → Int32) (b : Nat → Nat → Int64) (K : TKS) (hT : Tok K a b) (r : PE ⊕ PT) (h : PVr K r v) (lo hi : Nat) (hlo : lo < 2 ^ 31) (hhi : hi < 2 ^ 31) (hd : 3 ≤ d) : Con mX9_bounded d [.ref 0, .int (nI lo), .int (nI hi)] (mW v a b) (fun q W' => ∃ v' x, W' = mW v' a b ∧ chg [11, 13, 14, 15, 16] v v' ∧ PVr K (bd r (bndS K lo hi)) v' ∧ q = some (.int x) ∧ ∀ s s', r = .inr s → bndS K lo hi s = .inr s' → x = nI (K.2.2.1 s.1)) := by
  obtain ⟨t, ht, h11⟩ := h.t
  refine Con.of (by decide) (Nat.le_of_ble_eq_true rfl) ?_
  refine XG.blk tX9_bounded_ok 0 2 (pc' := 4) (pl' := [some (.ref 0), some (.int (nI lo)), some (.int (nI hi)), none]) (st' := [(.int (v 13))]) (W1 := (mW v a b)) (bs := []) rfl rfl rfl ?_
  refine XG.br eX9_bounded_4 (P := 0 < (v 13)) (r := []) rfl (tgt := 15) (by decide) (fun h4 => ?_) (fun h4 => ?_)
  · skip
    refine XG.blk tX9_bounded_ok 7 2 (pc' := 17) (pl' := [some (.ref 0), some (.int (nI lo)), some (.int (nI hi)), none]) (st' := [(.int (nI 1)), (.ref 0)]) (W1 := (mW v a b)) (bs := []) rfl rfl rfl ?_
    refine XG.callV0 eX9_bounded_17 kl_X9_230 (con_fail (d - 1) v a b t h11 (by omega) (nI 1)) (px_fitS (by omega)) rfl rfl rfl (Nat.le_of_ble_eq_true rfl) (fun r9 W9 hp9 hl9 => ?_)
    obtain ⟨rfl, rfl⟩ := hp9
    refine XG.blk tX9_bounded_ok 10 1 (pc' := 21) (pl' := [some (.ref 0), some (.int (nI lo)), some (.int (nI hi)), none]) (st' := [(.int (nI lo))]) (W1 := (mW (failV v (a 6) t (nI 1)) a b)) (bs := []) rfl rfl rfl ?_
    refine XS.iret eX9_bounded_21 rfl rfl ?_
    refine ⟨_, _, rfl, failV_chg.mono (by decide), ?_, rfl, ?_⟩
    · cases r with
      | inl e => rw [h.x]; exact h
      | inr s => exact absurd h4 (by rw [h.2.2.1]; exact n0_npos)
    · intro s s' e; subst e; exact absurd h4 (by rw [h.2.2.1]; exact n0_npos)
  · skip
    refine XG.blk tX9_bounded_ok 3 2 (pc' := 9) (pl' := [some (.ref 0), some (.int (nI lo)), some (.int (nI hi)), none]) (st' := [(.int (nI 2)), (.ref 0)]) (W1 := (mW v a b)) (bs := []) rfl rfl rfl ?_
    refine XG.callV0 eX9_bounded_9 kl_X9_233 (con_is (d - 1) v a b t h11 (by omega) (nI 2)) (px_fitS (by omega)) rfl rfl rfl (Nat.le_of_ble_eq_true rfl) (fun r9 W9 hp9 hl9 => ?_)
    obtain ⟨rfl, rfl⟩ := hp9
    refine XG.br eX9_bounded_12 (P := ¬ (if (v 13) = 0 ∧ (a 5) t = (nI 2) then 1 else 0) = 0) (r := []) rfl (tgt := 22) (by decide) (fun h12 => ?_) (fun h12 => ?_)
    · skip
      have q1 : (v 11) = (nI t) := h11
      have q2 : (nI t).toNatClampNeg = t := nI_clamp (by omega)
      refine XG.blk tX9_bounded_ok 12 8 (pc' := 34) (pl' := [some (.ref 0), some (.int (nI lo)), some (.int (nI hi)), some (.int ((a 7) (v 11).toNatClampNeg))]) (st' := [(.int (nI lo)), (.int ((a 7) (v 11).toNatClampNeg))]) (W1 := (mW v a b)) (bs := [px_vb (v 11) 403]) rfl rfl (by (try simp only [q1, q2]); exact (px_all (px_vbN (by omega) (by decide)) rfl)) ?_
      simp only [q1, q2]
      refine XG.br eX9_bounded_34 (P := ((a 7) t) < (nI lo)) (r := []) rfl (tgt := 42) (by decide) (fun h34 => ?_) (fun h34 => ?_)
      · skip
        have q3 : (v 11) = (nI t) := h11
        refine XG.blk tX9_bounded_ok 24 4 (pc' := 48) (pl' := [some (.ref 0), some (.int (nI lo)), some (.int (nI hi)), some (.int ((a 7) t))]) (st' := [(.int (v 11)), (.int (nI 5)), (.ref 0)]) (W1 := (mW v a b)) (bs := []) rfl rfl rfl ?_
        simp only [q3]
        refine XG.callV0 eX9_bounded_48 kl_X9_263 (con_wrong (d - 1) v a b t (by omega) (nI 5)) (px_fitS (by omega)) rfl rfl rfl (Nat.le_of_ble_eq_true rfl) (fun r9 W9 hp9 hl9 => ?_)
        obtain ⟨rfl, rfl⟩ := hp9
        refine XG.blk tX9_bounded_ok 29 1 (pc' := 52) (pl' := [some (.ref 0), some (.int (nI lo)), some (.int (nI hi)), some (.int ((a 7) t))]) (st' := [(.ref 0)]) (W1 := (mW (wrgV v (a 6 t) (nI 5)) a b)) (bs := []) rfl rfl rfl ?_
        refine XG.callV0 eX9_bounded_52 kl_X9_236 (con_goesOn (d - 1) (wrgV v (a 6 t) (nI 5)) a b t ((wrgV_chg 11 (by decide)).trans h11) (by omega) (by omega)) (px_fitS (by omega)) rfl rfl rfl (Nat.le_of_ble_eq_true rfl) (fun r9 W9 hp9 hl9 => ?_)
        obtain ⟨rfl, rfl⟩ := hp9
        refine XG.blk tX9_bounded_ok 31 1 (pc' := 56) (pl' := [some (.ref 0), some (.int (nI lo)), some (.int (nI hi)), some (.int ((a 7) t))]) (st' := [(.int ((a 7) t))]) (W1 := (mW (goV (wrgV v (a 6 t) (nI 5)) (a 6) t) a b)) (bs := []) rfl rfl rfl ?_
        refine XS.iret eX9_bounded_56 rfl rfl ?_
        have h6 := Decidable.not_not.mp (fun z => h12 (one_ne.mpr z))
        cases r with
        | inl e => exact absurd h6.1 (by rw [h.2.1]; exact nI_nz (by have := h.1; omega) (by have := h.1; omega))
        | inr s =>
          obtain rfl : s.1 = t := (nI_eq (by have := h.1; omega) (by omega)).mp (h.2.1.symm.trans h11)
          have hK := hT s.1 h.1 h.2.2.2.1
          have he : K.1 s.1 = 2 := (nI_eq (by omega) (by omega)).mp (hK.1.symm.trans h6.2)
          have h99 := hK.2.2.2.2.2.2.1
          have hcd : ¬ (lo ≤ K.2.2.1 s.1 ∧ K.2.2.1 s.1 ≤ hi) := by
            rw [hK.2.2.1] at h34; have := (nI_ltI (by omega) (by omega)).mp h34; omega
          refine ⟨_, _, rfl, (wrgV_chg.mono (by decide)).tr (goV_chg.mono (by decide)), ?_, rfl, fun s2 s' e _ => by cases e; exact hK.2.2.1⟩
          show PVr K (bndS K lo hi s) _
          have e9 : bndS K lo hi s = advS (s.1, noteS s.2 5 (K.2.1 s.1)) := by
            unfold bndS mstS mstN advS
            rw [if_pos he]
            show _ = bd (advN s.1) _
            cases advN s.1 with
            | inl e => rfl
            | inr t1 => show Sum.inr _ = Sum.inr _; rw [if_neg hcd]
          rw [e9]
          exact h.ngo hT (by omega)
      · skip
        refine XG.blk tX9_bounded_ok 21 2 (pc' := 39) (pl' := [some (.ref 0), some (.int (nI lo)), some (.int (nI hi)), some (.int ((a 7) t))]) (st' := [(.int (nI hi)), (.int ((a 7) t))]) (W1 := (mW v a b)) (bs := []) rfl rfl rfl ?_
        refine XG.br eX9_bounded_39 (P := ((a 7) t) ≤ (nI hi)) (r := []) rfl (tgt := 51) (by decide) (fun h39 => ?_) (fun h39 => ?_)
        · skip
          refine XG.blk tX9_bounded_ok 29 1 (pc' := 52) (pl' := [some (.ref 0), some (.int (nI lo)), some (.int (nI hi)), some (.int ((a 7) t))]) (st' := [(.ref 0)]) (W1 := (mW v a b)) (bs := []) rfl rfl rfl ?_
          refine XG.callV0 eX9_bounded_52 kl_X9_236 (con_goesOn (d - 1) v a b t h11 (by omega) (by omega)) (px_fitS (by omega)) rfl rfl rfl (Nat.le_of_ble_eq_true rfl) (fun r9 W9 hp9 hl9 => ?_)
          obtain ⟨rfl, rfl⟩ := hp9
          refine XG.blk tX9_bounded_ok 31 1 (pc' := 56) (pl' := [some (.ref 0), some (.int (nI lo)), some (.int (nI hi)), some (.int ((a 7) t))]) (st' := [(.int ((a 7) t))]) (W1 := (mW (goV v (a 6) t) a b)) (bs := []) rfl rfl rfl ?_
          refine XS.iret eX9_bounded_56 rfl rfl ?_
          have h6 := Decidable.not_not.mp (fun z => h12 (one_ne.mpr z))
          cases r with
          | inl e => exact absurd h6.1 (by rw [h.2.1]; exact nI_nz (by have := h.1; omega) (by have := h.1; omega))
          | inr s =>
            obtain rfl : s.1 = t := (nI_eq (by have := h.1; omega) (by omega)).mp (h.2.1.symm.trans h11)
            have hK := hT s.1 h.1 h.2.2.2.1
            have he : K.1 s.1 = 2 := (nI_eq (by omega) (by omega)).mp (hK.1.symm.trans h6.2)
            have h99 := hK.2.2.2.2.2.2.1
            have hcd : lo ≤ K.2.2.1 s.1 ∧ K.2.2.1 s.1 ≤ hi := by
              rw [hK.2.2.1] at h34 h39; have := (nI_leI (by omega) (by omega)).mp (Int32.not_lt.mp h34); have := (nI_leI (by omega) (by omega)).mp h39; omega
            refine ⟨_, _, rfl, goV_chg.mono (by decide), ?_, rfl, fun s2 s' e _ => by cases e; exact hK.2.2.1⟩
            show PVr K (bndS K lo hi s) _
            have e9 : bndS K lo hi s = advS (s.1, s.2) := by
              unfold bndS mstS mstN advS
              rw [if_pos he]
              show _ = bd (advN s.1) _
              cases advN s.1 with
              | inl e => rfl
              | inr t1 => show Sum.inr _ = Sum.inr _; rw [if_pos hcd]
            rw [e9]
            exact h.go hT (by omega)
        · skip
          have q4 : (v 11) = (nI t) := h11
          refine XG.blk tX9_bounded_ok 24 4 (pc' := 48) (pl' := [some (.ref 0), some (.int (nI lo)), some (.int (nI hi)), some (.int ((a 7) t))]) (st' := [(.int (v 11)), (.int (nI 5)), (.ref 0)]) (W1 := (mW v a b)) (bs := []) rfl rfl rfl ?_
          simp only [q4]
          refine XG.callV0 eX9_bounded_48 kl_X9_263 (con_wrong (d - 1) v a b t (by omega) (nI 5)) (px_fitS (by omega)) rfl rfl rfl (Nat.le_of_ble_eq_true rfl) (fun r9 W9 hp9 hl9 => ?_)
          obtain ⟨rfl, rfl⟩ := hp9
          refine XG.blk tX9_bounded_ok 29 1 (pc' := 52) (pl' := [some (.ref 0), some (.int (nI lo)), some (.int (nI hi)), some (.int ((a 7) t))]) (st' := [(.ref 0)]) (W1 := (mW (wrgV v (a 6 t) (nI 5)) a b)) (bs := []) rfl rfl rfl ?_
          refine XG.callV0 eX9_bounded_52 kl_X9_236 (con_goesOn (d - 1) (wrgV v (a 6 t) (nI 5)) a b t ((wrgV_chg 11 (by decide)).trans h11) (by omega) (by omega)) (px_fitS (by omega)) rfl rfl rfl (Nat.le_of_ble_eq_true rfl) (fun r9 W9 hp9 hl9 => ?_)
          obtain ⟨rfl, rfl⟩ := hp9
          refine XG.blk tX9_bounded_ok 31 1 (pc' := 56) (pl' := [some (.ref 0), some (.int (nI lo)), some (.int (nI hi)), some (.int ((a 7) t))]) (st' := [(.int ((a 7) t))]) (W1 := (mW (goV (wrgV v (a 6 t) (nI 5)) (a 6) t) a b)) (bs := []) rfl rfl rfl ?_
          refine XS.iret eX9_bounded_56 rfl rfl ?_
          have h6 := Decidable.not_not.mp (fun z => h12 (one_ne.mpr z))
          cases r with
          | inl e => exact absurd h6.1 (by rw [h.2.1]; exact nI_nz (by have := h.1; omega) (by have := h.1; omega))
          | inr s =>
            obtain rfl : s.1 = t := (nI_eq (by have := h.1; omega) (by omega)).mp (h.2.1.symm.trans h11)
            have hK := hT s.1 h.1 h.2.2.2.1
            have he : K.1 s.1 = 2 := (nI_eq (by omega) (by omega)).mp (hK.1.symm.trans h6.2)
            have h99 := hK.2.2.2.2.2.2.1
            have hcd : ¬ (lo ≤ K.2.2.1 s.1 ∧ K.2.2.1 s.1 ≤ hi) := by
              rw [hK.2.2.1] at h39; have := (nI_ltI (by omega) (by omega)).mp (Int32.not_le.mp h39); omega
            refine ⟨_, _, rfl, (wrgV_chg.mono (by decide)).tr (goV_chg.mono (by decide)), ?_, rfl, fun s2 s' e _ => by cases e; exact hK.2.2.1⟩
            show PVr K (bndS K lo hi s) _
            have e9 : bndS K lo hi s = advS (s.1, noteS s.2 5 (K.2.1 s.1)) := by
              unfold bndS mstS mstN advS
              rw [if_pos he]
              show _ = bd (advN s.1) _
              cases advN s.1 with
              | inl e => rfl
              | inr t1 => show Sum.inr _ = Sum.inr _; rw [if_neg hcd]
            rw [e9]
            exact h.ngo hT (by omega)
    · skip
      have h12 := Decidable.not_not.mp h12
      refine XG.blk tX9_bounded_ok 7 2 (pc' := 17) (pl' := [some (.ref 0), some (.int (nI lo)), some (.int (nI hi)), none]) (st' := [(.int (nI 1)), (.ref 0)]) (W1 := (mW v a b)) (bs := []) rfl rfl rfl ?_
      refine XG.callV0 eX9_bounded_17 kl_X9_230 (con_fail (d - 1) v a b t h11 (by omega) (nI 1)) (px_fitS (by omega)) rfl rfl rfl (Nat.le_of_ble_eq_true rfl) (fun r9 W9 hp9 hl9 => ?_)
      obtain ⟨rfl, rfl⟩ := hp9
      refine XG.blk tX9_bounded_ok 10 1 (pc' := 21) (pl' := [some (.ref 0), some (.int (nI lo)), some (.int (nI hi)), none]) (st' := [(.int (nI lo))]) (W1 := (mW (failV v (a 6) t (nI 1)) a b)) (bs := []) rfl rfl rfl ?_
      refine XS.iret eX9_bounded_21 rfl rfl ?_
      cases r with
      | inl e => exact absurd (n1_pos (k := e.1) (by have := h.1; omega) (by have := h.1; omega)) (by rw [← h.2.1]; exact h4)
      | inr s =>
        obtain rfl : s.1 = t := (nI_eq (by have := h.1; omega) (by omega)).mp (h.2.1.symm.trans h11)
        have hK := hT s.1 h.1 h.2.2.2.1
        have hne : ¬ K.1 s.1 = 2 := fun e => (one_ne.mp h12) ⟨h.2.2.1, by rw [hK.1, e]⟩
        have e9 : bndS K lo hi s = .inl (1, s.1) := by unfold bndS mstS mstN; rw [if_neg hne]; rfl
        refine ⟨_, _, rfl, failV_chg.mono (by decide), ?_, rfl, ?_⟩
        · show PVr K (bndS K lo hi s) _
          rw [e9]
          exact h.fail hT (Or.inl rfl)
        · intro s2 s' e e'; cases e; rw [e9] at e'; cases e'
      
