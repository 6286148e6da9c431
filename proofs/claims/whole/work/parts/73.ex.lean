/-! the reference: expressions, an automaton of two places -/
theorem con_isT (d : Nat) (v : Nat → Int32) (a : Nat → Nat → Int32) (b : Nat → Nat → Int64) (K : TKS) (hT : Tok K a b) (s : PT) (h : PVr K (.inr s) v) (k : Nat) (hk : K.1 s.1 = k) : Con mX9_is d [.ref 0, .int (nI k)] (mW v a b) (fun r W' => W' = mW v a b ∧ r = some (.int (nI 1))) := by
  have h1 := con_is d v a b s.1 h.2.1 h.1 (nI k)
  rw [if_pos ⟨h.2.2.1, by rw [(hT s.1 h.1 h.2.2.2.1).1, hk]⟩] at h1
  exact h1
theorem con_isF (d : Nat) (v : Nat → Int32) (a : Nat → Nat → Int32) (b : Nat → Nat → Int64) (K : TKS) (hT : Tok K a b) (s : PT) (h : PVr K (.inr s) v) (k : Nat) (hk : ¬ K.1 s.1 = k) (hk2 : k < 100) : Con mX9_is d [.ref 0, .int (nI k)] (mW v a b) (fun r W' => W' = mW v a b ∧ r = some (.int (nI 0))) := by
  have h1 := con_is d v a b s.1 h.2.1 h.1 (nI k)
  have hK := hT s.1 h.1 h.2.2.2.1
  rw [if_neg (fun z => hk ((nI_eq (by omega) (by omega)).mp (hK.1.symm.trans z.2)))] at h1
  exact h1
theorem con_isX (d : Nat) (v : Nat → Int32) (a : Nat → Nat → Int32) (b : Nat → Nat → Int64) (K : TKS) (e : PE) (h : PVr K (.inl e) v) (k : Int32) : Con mX9_is d [.ref 0, .int k] (mW v a b) (fun r W' => W' = mW v a b ∧ r = some (.int (nI 0))) := by
  obtain ⟨t, ht, h11⟩ := h.t
  have h1 := con_is d v a b t h11 ht k
  rw [if_neg (fun z => absurd z.1 (by rw [h.2.1]; exact nI_nz (by have := h.1; omega) (by have := h.1; omega)))] at h1
  exact h1
theorem con_failX (d : Nat) (v : Nat → Int32) (a : Nat → Nat → Int32) (b : Nat → Nat → Int64) (K : TKS) (e : PE) (h : PVr K (.inl e) v) (k : Int32) : Con mX9_fail d [.ref 0, .int k] (mW v a b) (fun r W' => W' = mW v a b ∧ r = none) := by
  obtain ⟨t, ht, h11⟩ := h.t
  have h1 := con_fail d v a b t h11 ht k
  rw [h.x] at h1
  exact h1
theorem PVr.goX {K : TKS} {e : PE} {v f : Nat → Int32} {t : Nat} (h : PVr K (.inl e) v) (ht : t ≤ 400) : PVr K (.inl e) (goV v f t) := by
  unfold goV
  by_cases h4 : t = 400
  · rw [if_pos h4, h.x]; exact h
  · rw [if_neg h4]; exact ⟨h.1, h.2.1, h.2.2.1, t + 1, by omega, rfl⟩
theorem con_goX (d : Nat) (v : Nat → Int32) (a : Nat → Nat → Int32) (b : Nat → Nat → Int64) (K : TKS) (e : PE) (h : PVr K (.inl e) v) (hd : 1 ≤ d) : Con mX9_goesOn d [.ref 0] (mW v a b) (fun r W' => ∃ v', W' = mW v' a b ∧ chg [11, 13, 14] v v' ∧ PVr K (.inl e) v' ∧ r = none) := by
  obtain ⟨t, ht, h11⟩ := h.t
  refine (con_goesOn d v a b t h11 ht hd).mono (fun r W' hp => ?_)
  obtain ⟨rfl, rfl⟩ := hp
  exact ⟨_, rfl, goV_chg, h.goX ht, rfl⟩
theorem con_goS (d : Nat) (v : Nat → Int32) (a : Nat → Nat → Int32) (b : Nat → Nat → Int64) (K : TKS) (hT : Tok K a b) (s : PT) (h : PVr K (.inr s) v) (hk : K.1 s.1 ≠ 0) (hd : 1 ≤ d) : Con mX9_goesOn d [.ref 0] (mW v a b) (fun r W' => ∃ v', W' = mW v' a b ∧ chg [11, 13, 14] v v' ∧ PVr K (advS s) v' ∧ r = none) := by
  refine (con_goesOn d v a b s.1 h.2.1 h.1 hd).mono (fun r W' hp => ?_)
  obtain ⟨rfl, rfl⟩ := hp
  exact ⟨_, rfl, goV_chg, h.go hT hk, rfl⟩
theorem con_failS (d : Nat) (v : Nat → Int32) (a : Nat → Nat → Int32) (b : Nat → Nat → Int64) (K : TKS) (hT : Tok K a b) (s : PT) (h : PVr K (.inr s) v) (k : Nat) (hk : k = 1 ∨ k = 2) : Con mX9_fail d [.ref 0, .int (nI k)] (mW v a b) (fun r W' => ∃ v', W' = mW v' a b ∧ chg [11, 13, 14] v v' ∧ PVr K (.inl (k, s.1)) v' ∧ r = none) := by
  refine (con_fail d v a b s.1 h.2.1 h.1 (nI k)).mono (fun r W' hp => ?_)
  obtain ⟨rfl, rfl⟩ := hp
  exact ⟨_, rfl, failV_chg, h.fail hT hk, rfl⟩
def unK (K : TKS) (t : Nat) : Option (Nat × Nat) := if K.1 t = 2 then some (0, K.2.2.1 t) else if 33 ≤ K.1 t ∧ K.1 t ≤ 41 then some (1, K.1 t - 33) else none
theorem St.v {q0 sd : Nat} {W : List Nat} {c : Cde} {v v' : Nat → Int32} {a : Nat → Nat → Int32} (h : St q0 sd W c v a) (h46 : v' 46 = v 46) (h50 : v' 50 = v 50) : St q0 sd W c v' a := by
  obtain ⟨h1, h2, h3, h4⟩ := h
  exact ⟨by rw [h50]; exact h1, h2, by rw [h46]; exact h3, h4⟩
theorem St.one {q0 sd : Nat} {W : List Nat} {c : Cde} {v v' : Nat → Int32} {a a' : Nat → Nat → Int32} {k x : Nat} (h : St q0 sd W c v a) (hb : q0 + c.length + nops W ≤ 400 + 420 * sd) (h50 : v' 50 = v 50) (h46 : v' 46 = nI (q0 + c.length + 1)) (h49 : a' 49 = a 49) (h47 : a' 47 = upd (a 47) (q0 + c.length) (nI k)) (h48 : a' 48 = upd (a 48) (q0 + c.length) (nI x)) : St q0 sd W (c ++ [(k, x)]) v' a' := by
  obtain ⟨h1, h2, h3, h4, h5, h6, h7, h8⟩ := h
  have hl : (c ++ [(k, x)]).length = c.length + 1 := by simp
  exact ⟨by rw [h50]; exact h1, h2, by rw [hl]; exact h46, h4, by rw [hl]; omega, by rw [h49]; exact h6, segR_app h7 h47 h48, h8⟩
set_option maxHeartbeats 400000 in
theorem con_unit (d : Nat) (v : Nat → Int32) (a : Nat → Nat → Int32) (b : Nat → Nat → Int64) (K : TKS) (hT : Tok K a b) (s : PT) (h : PVr K (.inr s) v) (q0 sd : Nat) (hsd : sd < 2) (W : List Nat) (c : Cde) (hS : St q0 sd W c v a) (hb : q0 + c.length + nops W ≤ s.1 + 420 * sd) (hd : 2 ≤ d) : Con mX9_unit d [.ref 0] (mW v a b) (fun r W' => ∃ v' a', W' = mW v' a' b ∧ chg [11, 13, 14, 46] v v' ∧ FrX q0 sd a a' ∧ r = none ∧ ((∃ z, unK K s.1 = some z ∧ PVr K (advS s) v' ∧ St q0 sd W (c ++ [z]) v' a') ∨ (unK K s.1 = none ∧ PVr K (.inl (1, s.1)) v'))) := by
  have ht := h.1
  have h11 := h.2.1
  have hK := hT s.1 h.1 h.2.2.2.1
  have hK5 := hK.1
  have hK7 := hK.2.2.1
  have hk100 := hK.2.2.2.2.1
  have h46 : v 46 = nI (q0 + c.length) := hS.2.2.1
  have hv99 := hK.2.2.2.2.2.2.1
  have hx13 : v 13 = 0 := h.2.2.1
  refine Con.of (by decide) (Nat.le_of_ble_eq_true rfl) ?_
  by_cases hk2 : K.1 s.1 = 2
  · have hk0 : K.1 s.1 ≠ 0 := by omega
    refine XG.blk tX9_unit_ok 0 2 (pc' := 2) (pl' := [some (.ref 0)]) (st' := [(.int (nI 2)), (.ref 0)]) (W1 := (mW v a b)) (bs := []) rfl rfl rfl ?_
    refine XG.callV0 eX9_unit_2 kl_X9_233 (con_isT (d - 1) v a b K hT _ h 2 hk2) (px_fitS (by omega)) rfl rfl rfl (Nat.le_of_ble_eq_true rfl) (fun r9 W9 hp9 hl9 => ?_)
    obtain ⟨rfl, rfl⟩ := hp9
    refine XG.br eX9_unit_5 (P := (nI 1) = 0) (r := []) rfl (tgt := 29) (by decide) (fun h5 => ?_) (fun h5 => ?_)
    · exfalso
      have g5 : 1 = 0 := (nI_eq (a := 1) (b := 0) (by omega) (by omega)).mp h5
      omega
    · skip
      have g5 : ¬ 1 = 0 := (fun z => h5 ((nI_eq (a := 1) (b := 0) (by omega) (by omega)).mpr z))
      have q1 : (v 11) = (nI s.1) := h11
      have q2 : (nI s.1).toNatClampNeg = s.1 := nI_clamp (by omega)
      have q3 : ((a 7) s.1) = (nI (K.2.2.1 s.1)) := hK7
      refine XG.blk tX9_unit_ok 4 7 (pc' := 19) (pl' := [some (.ref 0)]) (st' := [(.int ((a 7) (v 11).toNatClampNeg)), (.int (nI 0)), (.ref 0)]) (W1 := (mW v a b)) (bs := [px_vb (v 11) 403]) rfl rfl (by (try simp only [q1, q2, q3]); exact (px_all (px_vbN (by omega) (by decide)) rfl)) ?_
      simp only [q1, q2, q3]
      refine XG.callV0 eX9_unit_19 kl_X9_317 (con_emit (d - 1) v a b (q0 + c.length) h46 (by omega) (nI 0) (nI (K.2.2.1 s.1))) (px_fitS (by omega)) rfl rfl rfl (Nat.le_of_ble_eq_true rfl) (fun r9 W9 hp9 hl9 => ?_)
      obtain ⟨rfl, rfl⟩ := hp9
      have hPe : PVr K (.inr s) (va_up v 46 (nI ((q0 + c.length) + 1))) := h.chg (fun k hk => if_neg (by revert k; decide))
      refine XG.blk tX9_unit_ok 12 1 (pc' := 23) (pl' := [some (.ref 0)]) (st' := [(.ref 0)]) (W1 := (mW (va_up v 46 (nI ((q0 + c.length) + 1))) (va_up (va_up a 47 (upd (a 47) (q0 + c.length) (nI 0))) 48 (upd (a 48) (q0 + c.length) (nI (K.2.2.1 s.1)))) b)) (bs := []) rfl rfl rfl ?_
      refine XG.callV0 eX9_unit_23 kl_X9_236 (con_goS (d - 1) (va_up v 46 (nI ((q0 + c.length) + 1))) (va_up (va_up a 47 (upd (a 47) (q0 + c.length) (nI 0))) 48 (upd (a 48) (q0 + c.length) (nI (K.2.2.1 s.1)))) b K hT _ hPe hk0 (by omega)) (px_fitS (by omega)) rfl rfl rfl (Nat.le_of_ble_eq_true rfl) (fun r9 W9 hp9 hl9 => ?_)
      obtain ⟨v1, rfl, hc1, hP1, rfl⟩ := hp9
      refine XG.goto eX9_unit_26 (tgt := 93) (by decide) ?_
      refine XS.vret eX9_unit_93 rfl ?_
      exact ⟨_, _, rfl, (chg.up (by decide)).tr (hc1.mono (by decide)), FrX.e _ _ (by omega) (by omega), rfl, Or.inl ⟨(0, K.2.2.1 s.1), by unfold unK; rw [if_pos hk2], hP1, hS.one (by omega) (hc1 50 (by decide)) (hc1 46 (by decide)) rfl rfl rfl⟩⟩
  · by_cases hkv : 33 ≤ K.1 s.1 ∧ K.1 s.1 ≤ 41
    · have hk0 : K.1 s.1 ≠ 0 := by omega
      refine XG.blk tX9_unit_ok 0 2 (pc' := 2) (pl' := [some (.ref 0)]) (st' := [(.int (nI 2)), (.ref 0)]) (W1 := (mW v a b)) (bs := []) rfl rfl rfl ?_
      refine XG.callV0 eX9_unit_2 kl_X9_233 (con_isF (d - 1) v a b K hT _ h 2 hk2 (by decide)) (px_fitS (by omega)) rfl rfl rfl (Nat.le_of_ble_eq_true rfl) (fun r9 W9 hp9 hl9 => ?_)
      obtain ⟨rfl, rfl⟩ := hp9
      refine XG.br eX9_unit_5 (P := (nI 0) = 0) (r := []) rfl (tgt := 29) (by decide) (fun h5 => ?_) (fun h5 => ?_)
      · skip
        have g5 : 0 = 0 := (nI_eq (a := 0) (b := 0) (by omega) (by omega)).mp h5
        refine XG.blk tX9_unit_ok 15 2 (pc' := 33) (pl' := [some (.ref 0)]) (st' := [(.int (v 13))]) (W1 := (mW v a b)) (bs := []) rfl rfl rfl ?_
        refine XG.br eX9_unit_33 (P := ¬ (v 13) = 0) (r := []) rfl (tgt := 88) (by decide) (fun h33 => ?_) (fun h33 => ?_)
        · exfalso
          first | exact h33 hx13 | exact hx13 h33 | exact absurd hx13 h33
        · skip
          have h33 := Decidable.not_not.mp h33
          have q1 : (v 11) = (nI s.1) := h11
          have q2 : (nI s.1).toNatClampNeg = s.1 := nI_clamp (by omega)
          have q3 : ((a 5) s.1) = (nI (K.1 s.1)) := hK5
          refine XG.blk tX9_unit_ok 18 6 (pc' := 47) (pl' := [some (.ref 0)]) (st' := [(.int (nI 33)), (.int ((a 5) (v 11).toNatClampNeg))]) (W1 := (mW v a b)) (bs := [px_vb (v 11) 403]) rfl rfl (by (try simp only [q1, q2, q3]); exact (px_all (px_vbN (by omega) (by decide)) rfl)) ?_
          simp only [q1, q2, q3]
          refine XG.br eX9_unit_47 (P := (nI (K.1 s.1)) < (nI 33)) (r := []) rfl (tgt := 88) (by decide) (fun h47 => ?_) (fun h47 => ?_)
          · exfalso
            have g47 : (K.1 s.1) < 33 := (nI_ltI (a := (K.1 s.1)) (b := 33) (by omega) (by omega)).mp h47
            omega
          · skip
            have g47 : ¬ (K.1 s.1) < 33 := (fun z => h47 ((nI_ltI (a := (K.1 s.1)) (b := 33) (by omega) (by omega)).mpr z))
            have q4 : (v 11) = (nI s.1) := h11
            have q5 : (nI s.1).toNatClampNeg = s.1 := nI_clamp (by omega)
            have q6 : ((a 5) s.1) = (nI (K.1 s.1)) := hK5
            refine XG.blk tX9_unit_ok 25 6 (pc' := 61) (pl' := [some (.ref 0)]) (st' := [(.int (nI 41)), (.int ((a 5) (v 11).toNatClampNeg))]) (W1 := (mW v a b)) (bs := [px_vb (v 11) 403]) rfl rfl (by (try simp only [q4, q5, q6]); exact (px_all (px_vbN (by omega) (by decide)) rfl)) ?_
            simp only [q4, q5, q6]
            refine XG.br eX9_unit_61 (P := (nI 41) < (nI (K.1 s.1))) (r := []) rfl (tgt := 88) (by decide) (fun h61 => ?_) (fun h61 => ?_)
            · exfalso
              have g61 : 41 < (K.1 s.1) := (nI_ltI (a := 41) (b := (K.1 s.1)) (by omega) (by omega)).mp h61
              omega
            · skip
              have g61 : ¬ 41 < (K.1 s.1) := (fun z => h61 ((nI_ltI (a := 41) (b := (K.1 s.1)) (by omega) (by omega)).mpr z))
              have q7 : (v 11) = (nI s.1) := h11
              have q8 : (nI s.1).toNatClampNeg = s.1 := nI_clamp (by omega)
              have q9 : ((a 5) s.1) = (nI (K.1 s.1)) := hK5
              have q10 : ((nI (K.1 s.1)) - (nI 33)) = (nI ((K.1 s.1) - 33)) := px_esub rfl rfl (by omega)
              refine XG.blk tX9_unit_ok 32 9 (pc' := 78) (pl' := [some (.ref 0)]) (st' := [(.int (((a 5) (v 11).toNatClampNeg) - (nI 33))), (.int (nI 1)), (.ref 0)]) (W1 := (mW v a b)) (bs := [px_vb (v 11) 403]) rfl rfl (by (try simp only [q7, q8, q9, q10]); exact (px_all (px_vbN (by omega) (by decide)) rfl)) ?_
              simp only [q7, q8, q9, q10]
              refine XG.callV0 eX9_unit_78 kl_X9_317 (con_emit (d - 1) v a b (q0 + c.length) h46 (by omega) (nI 1) (nI ((K.1 s.1) - 33))) (px_fitS (by omega)) rfl rfl rfl (Nat.le_of_ble_eq_true rfl) (fun r9 W9 hp9 hl9 => ?_)
              obtain ⟨rfl, rfl⟩ := hp9
              have hPe : PVr K (.inr s) (va_up v 46 (nI ((q0 + c.length) + 1))) := h.chg (fun k hk => if_neg (by revert k; decide))
              refine XG.blk tX9_unit_ok 42 1 (pc' := 82) (pl' := [some (.ref 0)]) (st' := [(.ref 0)]) (W1 := (mW (va_up v 46 (nI ((q0 + c.length) + 1))) (va_up (va_up a 47 (upd (a 47) (q0 + c.length) (nI 1))) 48 (upd (a 48) (q0 + c.length) (nI ((K.1 s.1) - 33)))) b)) (bs := []) rfl rfl rfl ?_
              refine XG.callV0 eX9_unit_82 kl_X9_236 (con_goS (d - 1) (va_up v 46 (nI ((q0 + c.length) + 1))) (va_up (va_up a 47 (upd (a 47) (q0 + c.length) (nI 1))) 48 (upd (a 48) (q0 + c.length) (nI ((K.1 s.1) - 33)))) b K hT _ hPe hk0 (by omega)) (px_fitS (by omega)) rfl rfl rfl (Nat.le_of_ble_eq_true rfl) (fun r9 W9 hp9 hl9 => ?_)
              obtain ⟨v1, rfl, hc1, hP1, rfl⟩ := hp9
              refine XG.goto eX9_unit_85 (tgt := 93) (by decide) ?_
              refine XS.vret eX9_unit_93 rfl ?_
              exact ⟨_, _, rfl, (chg.up (by decide)).tr (hc1.mono (by decide)), FrX.e _ _ (by omega) (by omega), rfl, Or.inl ⟨(1, K.1 s.1 - 33), by unfold unK; rw [if_neg hk2, if_pos hkv], hP1, hS.one (by omega) (hc1 50 (by decide)) (hc1 46 (by decide)) rfl rfl rfl⟩⟩
      · exfalso
        have g5 : ¬ 0 = 0 := (fun z => h5 ((nI_eq (a := 0) (b := 0) (by omega) (by omega)).mpr z))
        omega
    · skip
      refine XG.blk tX9_unit_ok 0 2 (pc' := 2) (pl' := [some (.ref 0)]) (st' := [(.int (nI 2)), (.ref 0)]) (W1 := (mW v a b)) (bs := []) rfl rfl rfl ?_
      refine XG.callV0 eX9_unit_2 kl_X9_233 (con_isF (d - 1) v a b K hT _ h 2 hk2 (by decide)) (px_fitS (by omega)) rfl rfl rfl (Nat.le_of_ble_eq_true rfl) (fun r9 W9 hp9 hl9 => ?_)
      obtain ⟨rfl, rfl⟩ := hp9
      refine XG.br eX9_unit_5 (P := (nI 0) = 0) (r := []) rfl (tgt := 29) (by decide) (fun h5 => ?_) (fun h5 => ?_)
      · skip
        have g5 : 0 = 0 := (nI_eq (a := 0) (b := 0) (by omega) (by omega)).mp h5
        refine XG.blk tX9_unit_ok 15 2 (pc' := 33) (pl' := [some (.ref 0)]) (st' := [(.int (v 13))]) (W1 := (mW v a b)) (bs := []) rfl rfl rfl ?_
        refine XG.br eX9_unit_33 (P := ¬ (v 13) = 0) (r := []) rfl (tgt := 88) (by decide) (fun h33 => ?_) (fun h33 => ?_)
        · exfalso
          first | exact h33 hx13 | exact hx13 h33 | exact absurd hx13 h33
        · skip
          have h33 := Decidable.not_not.mp h33
          have q1 : (v 11) = (nI s.1) := h11
          have q2 : (nI s.1).toNatClampNeg = s.1 := nI_clamp (by omega)
          have q3 : ((a 5) s.1) = (nI (K.1 s.1)) := hK5
          refine XG.blk tX9_unit_ok 18 6 (pc' := 47) (pl' := [some (.ref 0)]) (st' := [(.int (nI 33)), (.int ((a 5) (v 11).toNatClampNeg))]) (W1 := (mW v a b)) (bs := [px_vb (v 11) 403]) rfl rfl (by (try simp only [q1, q2, q3]); exact (px_all (px_vbN (by omega) (by decide)) rfl)) ?_
          simp only [q1, q2, q3]
          refine XG.br eX9_unit_47 (P := (nI (K.1 s.1)) < (nI 33)) (r := []) rfl (tgt := 88) (by decide) (fun h47 => ?_) (fun h47 => ?_)
          · skip
            have g47 : (K.1 s.1) < 33 := (nI_ltI (a := (K.1 s.1)) (b := 33) (by omega) (by omega)).mp h47
            refine XG.blk tX9_unit_ok 45 2 (pc' := 90) (pl' := [some (.ref 0)]) (st' := [(.int (nI 1)), (.ref 0)]) (W1 := (mW v a b)) (bs := []) rfl rfl rfl ?_
            refine XG.callV0 eX9_unit_90 kl_X9_230 (con_failS (d - 1) v a b K hT _ h 1 (Or.inl rfl)) (px_fitS (by omega)) rfl rfl rfl (Nat.le_of_ble_eq_true rfl) (fun r9 W9 hp9 hl9 => ?_)
            obtain ⟨v1, rfl, hc1, hP1, rfl⟩ := hp9
            refine XS.vret eX9_unit_93 rfl ?_
            exact ⟨_, _, rfl, hc1.mono (by decide), FrX.rf, rfl, Or.inr ⟨by unfold unK; rw [if_neg hk2, if_neg hkv], hP1⟩⟩
          · skip
            have g47 : ¬ (K.1 s.1) < 33 := (fun z => h47 ((nI_ltI (a := (K.1 s.1)) (b := 33) (by omega) (by omega)).mpr z))
            have q4 : (v 11) = (nI s.1) := h11
            have q5 : (nI s.1).toNatClampNeg = s.1 := nI_clamp (by omega)
            have q6 : ((a 5) s.1) = (nI (K.1 s.1)) := hK5
            refine XG.blk tX9_unit_ok 25 6 (pc' := 61) (pl' := [some (.ref 0)]) (st' := [(.int (nI 41)), (.int ((a 5) (v 11).toNatClampNeg))]) (W1 := (mW v a b)) (bs := [px_vb (v 11) 403]) rfl rfl (by (try simp only [q4, q5, q6]); exact (px_all (px_vbN (by omega) (by decide)) rfl)) ?_
            simp only [q4, q5, q6]
            refine XG.br eX9_unit_61 (P := (nI 41) < (nI (K.1 s.1))) (r := []) rfl (tgt := 88) (by decide) (fun h61 => ?_) (fun h61 => ?_)
            · skip
              have g61 : 41 < (K.1 s.1) := (nI_ltI (a := 41) (b := (K.1 s.1)) (by omega) (by omega)).mp h61
              refine XG.blk tX9_unit_ok 45 2 (pc' := 90) (pl' := [some (.ref 0)]) (st' := [(.int (nI 1)), (.ref 0)]) (W1 := (mW v a b)) (bs := []) rfl rfl rfl ?_
              refine XG.callV0 eX9_unit_90 kl_X9_230 (con_failS (d - 1) v a b K hT _ h 1 (Or.inl rfl)) (px_fitS (by omega)) rfl rfl rfl (Nat.le_of_ble_eq_true rfl) (fun r9 W9 hp9 hl9 => ?_)
              obtain ⟨v1, rfl, hc1, hP1, rfl⟩ := hp9
              refine XS.vret eX9_unit_93 rfl ?_
              exact ⟨_, _, rfl, hc1.mono (by decide), FrX.rf, rfl, Or.inr ⟨by unfold unK; rw [if_neg hk2, if_neg hkv], hP1⟩⟩
            · skip
              have g61 : ¬ 41 < (K.1 s.1) := (fun z => h61 ((nI_ltI (a := 41) (b := (K.1 s.1)) (by omega) (by omega)).mpr z))
              have q7 : (v 11) = (nI s.1) := h11
              have q8 : (nI s.1).toNatClampNeg = s.1 := nI_clamp (by omega)
              have q9 : ((a 5) s.1) = (nI (K.1 s.1)) := hK5
              have q10 : ((nI (K.1 s.1)) - (nI 33)) = (nI ((K.1 s.1) - 33)) := px_esub rfl rfl (by omega)
              refine XG.blk tX9_unit_ok 32 9 (pc' := 78) (pl' := [some (.ref 0)]) (st' := [(.int (((a 5) (v 11).toNatClampNeg) - (nI 33))), (.int (nI 1)), (.ref 0)]) (W1 := (mW v a b)) (bs := [px_vb (v 11) 403]) rfl rfl (by (try simp only [q7, q8, q9, q10]); exact (px_all (px_vbN (by omega) (by decide)) rfl)) ?_
              simp only [q7, q8, q9, q10]
              refine XG.callV0 eX9_unit_78 kl_X9_317 (con_emit (d - 1) v a b (q0 + c.length) h46 (by omega) (nI 1) (nI ((K.1 s.1) - 33))) (px_fitS (by omega)) rfl rfl rfl (Nat.le_of_ble_eq_true rfl) (fun r9 W9 hp9 hl9 => ?_)
              obtain ⟨rfl, rfl⟩ := hp9
              have hPe : PVr K (.inr s) (va_up v 46 (nI ((q0 + c.length) + 1))) := h.chg (fun k hk => if_neg (by revert k; decide))
              refine XG.blk tX9_unit_ok 42 1 (pc' := 82) (pl' := [some (.ref 0)]) (st' := [(.ref 0)]) (W1 := (mW (va_up v 46 (nI ((q0 + c.length) + 1))) (va_up (va_up a 47 (upd (a 47) (q0 + c.length) (nI 1))) 48 (upd (a 48) (q0 + c.length) (nI ((K.1 s.1) - 33)))) b)) (bs := []) rfl rfl rfl ?_
              refine XG.callV0 eX9_unit_82 kl_X9_236 (con_goS (d - 1) (va_up v 46 (nI ((q0 + c.length) + 1))) (va_up (va_up a 47 (upd (a 47) (q0 + c.length) (nI 1))) 48 (upd (a 48) (q0 + c.length) (nI ((K.1 s.1) - 33)))) b K hT _ hPe (by omega) (by omega)) (px_fitS (by omega)) rfl rfl rfl (Nat.le_of_ble_eq_true rfl) (fun r9 W9 hp9 hl9 => ?_)
              obtain ⟨v1, rfl, hc1, hP1, rfl⟩ := hp9
              refine XG.goto eX9_unit_85 (tgt := 93) (by decide) ?_
              refine XS.vret eX9_unit_93 rfl ?_
              exfalso; omega
      · exfalso
        have g5 : ¬ 0 = 0 := (fun z => h5 ((nI_eq (a := 0) (b := 0) (by omega) (by omega)).mpr z))
        omega
set_option maxHeartbeats 400000 in
theorem con_unitX (d : Nat) (v : Nat → Int32) (a : Nat → Nat → Int32) (b : Nat → Nat → Int64) (K : TKS) (e : PE) (h : PVr K (.inl e) v) (hd : 2 ≤ d) : Con mX9_unit d [.ref 0] (mW v a b) (fun r W' => W' = mW v a b ∧ r = none) := by
  have hx13 : ¬ v 13 = 0 := by rw [h.2.1]; exact nI_nz (by have := h.1; omega) (by have := h.1; omega)
  refine Con.of (by decide) (Nat.le_of_ble_eq_true rfl) ?_
  refine XG.blk tX9_unit_ok 0 2 (pc' := 2) (pl' := [some (.ref 0)]) (st' := [(.int (nI 2)), (.ref 0)]) (W1 := (mW v a b)) (bs := []) rfl rfl rfl ?_
  refine XG.callV0 eX9_unit_2 kl_X9_233 (con_isX (d - 1) v a b K _ h (nI 2)) (px_fitS (by omega)) rfl rfl rfl (Nat.le_of_ble_eq_true rfl) (fun r9 W9 hp9 hl9 => ?_)
  obtain ⟨rfl, rfl⟩ := hp9
  refine XG.br eX9_unit_5 (P := (nI 0) = 0) (r := []) rfl (tgt := 29) (by decide) (fun h5 => ?_) (fun h5 => ?_)
  · skip
    have g5 : 0 = 0 := (nI_eq (a := 0) (b := 0) (by omega) (by omega)).mp h5
    refine XG.blk tX9_unit_ok 15 2 (pc' := 33) (pl' := [some (.ref 0)]) (st' := [(.int (v 13))]) (W1 := (mW v a b)) (bs := []) rfl rfl rfl ?_
    refine XG.br eX9_unit_33 (P := ¬ (v 13) = 0) (r := []) rfl (tgt := 88) (by decide) (fun h33 => ?_) (fun h33 => ?_)
    · skip
      refine XG.blk tX9_unit_ok 45 2 (pc' := 90) (pl' := [some (.ref 0)]) (st' := [(.int (nI 1)), (.ref 0)]) (W1 := (mW v a b)) (bs := []) rfl rfl rfl ?_
      refine XG.callV0 eX9_unit_90 kl_X9_230 (con_failX (d - 1) v a b K _ h (nI 1)) (px_fitS (by omega)) rfl rfl rfl (Nat.le_of_ble_eq_true rfl) (fun r9 W9 hp9 hl9 => ?_)
      obtain ⟨rfl, rfl⟩ := hp9
      refine XS.vret eX9_unit_93 rfl ?_
      exact ⟨rfl, rfl⟩
    · exfalso
      have h33 := Decidable.not_not.mp h33
      first | exact h33 hx13 | exact hx13 h33
  · exfalso
    have g5 : ¬ 0 = 0 := (fun z => h5 ((nI_eq (a := 0) (b := 0) (by omega) (by omega)).mpr z))
    omega
