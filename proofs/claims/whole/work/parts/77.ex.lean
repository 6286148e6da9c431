/-! the reference: a term of a law -/
set_option maxHeartbeats 400000 in
theorem con_term (d : Nat) (v : Nat → Int32) (a : Nat → Nat → Int32) (b : Nat → Nat → Int64) (K : TKS) (hT : Tok K a b) (t : Nat) (w : Option PE) (h : PVr K (.inr (t, w)) v) (h12 : v 12 = nI 0) (q0 sd B : Nat) (hsd : sd < 2) (h46 : v 46 = nI q0) (hq : 420 * sd ≤ q0) (hq2 : q0 ≤ t + 420 * sd) (h40 : v 40 = nI B) (hB : B < 260) (hd : 4 ≤ d) : Con mX9_term d [.ref 0] (mW v a b) (fun r W' => ∃ v' a', W' = mW v' a' b ∧ chg (40 :: exV) v v' ∧ FrX q0 sd (va_up (va_up a 44 (upd (a 44) B (nI q0))) 45 (upd (a 45) B (v' 46))) a' ∧ v' 40 = nI (B + 1) ∧ r = none ∧ ((∃ e, exS K 6 t = .inl e ∧ PVr K (.inl e) v') ∨ (∃ x, exS K 6 t = .inr x ∧ PVr K (.inr (x.1, w)) v' ∧ v' 12 = nI 0 ∧ v' 46 = nI (q0 + x.2.length) ∧ segR a' q0 x.2 ∧ q0 + x.2.length ≤ x.1 + 420 * sd))) := by
  have hx13 : v 13 = 0 := h.2.2.1
  have ht : t ≤ 400 := h.1
  refine Con.of (by decide) (Nat.le_of_ble_eq_true rfl) ?_
  have q1 : (v 40) = (nI B) := h40
  have q2 : (v 46) = (nI q0) := h46
  have q3 : (nI B).toNatClampNeg = B := nI_clamp (by omega)
  refine XG.blk tX9_term_ok 0 9 (pc' := 17) (pl' := [some (.ref 0)]) (st' := [(.int (v 13))]) (W1 := (mW v (va_up a 44 (upd (a 44) (v 40).toNatClampNeg (v 46))) b)) (bs := [px_vb (v 40) 260]) rfl rfl (by (try simp only [q1, q2, q3]); exact (px_all (px_vbN (by omega) (by decide)) rfl)) ?_
  simp only [q1, q2, q3]
  refine XG.br eX9_term_17 (P := ¬ (v 13) = 0) (r := []) rfl (tgt := 24) (by decide) (fun h17 => ?_) (fun h17 => ?_)
  · exfalso
    exact h17 hx13
  · skip
    have h17 := Decidable.not_not.mp h17
    refine XG.blk tX9_term_ok 10 1 (pc' := 21) (pl' := [some (.ref 0)]) (st' := [(.ref 0)]) (W1 := (mW v (va_up a 44 (upd (a 44) B (nI q0))) b)) (bs := []) rfl rfl rfl ?_
    refine XG.callV0 eX9_term_21 kl_X9_308 (con_expression (d - 1) v (va_up a 44 (upd (a 44) B (nI q0))) b K (FrX.tok (q0 := q0) (sd := sd) FrX.rf hT) t w h h12 q0 sd hsd h46 hq hq2 (by omega)) (px_fitS (by omega)) rfl rfl rfl (Nat.le_of_ble_eq_true rfl) (fun r9 W9 hp9 hl9 => ?_)
    obtain ⟨v1, a1, rfl, hc1, hf1, rfl, hu⟩ := hp9
    have h401 : v1 40 = nI B := (hc1 40 (by decide)).trans h40
    have q4 : (v1 40) = (nI B) := h401
    have q5 : (nI B).toNatClampNeg = B := nI_clamp (by omega)
    have q6 : ((nI B) + (nI 1)) = (nI (B + 1)) := px_eadd rfl rfl
    refine XG.blk tX9_term_ok 12 13 (pc' := 47) (pl' := [some (.ref 0)]) (st' := []) (W1 := (mW (va_up v1 40 ((v1 40) + (nI 1))) (va_up a1 45 (upd (a1 45) (v1 40).toNatClampNeg (v1 46))) b)) (bs := [px_vb (v1 40) 260]) rfl rfl (by (try simp only [q4, q5, q6]); exact (px_all (px_vbN (by omega) (by decide)) rfl)) ?_
    simp only [q4, q5, q6]
    refine XS.vret eX9_term_47 rfl ?_
    refine ⟨_, _, rfl, (hc1.mono (by decide)).tr (chg.up (by decide)), ⟨fun k hk => ?_, fun k hk j hj => ?_⟩, rfl, rfl, ?_⟩
    · show (if k = 45 then upd (a1 45) B (v1 46) else a1 k) = (if k = 45 then upd (a 45) B (v1 46) else if k = 44 then upd (a 44) B (nI q0) else a k)
      by_cases e : k = 45
      · subst e; rw [if_pos rfl, if_pos rfl, hf1.1 45 (by decide)]; rfl
      · rw [if_neg e, if_neg e, hf1.1 k hk]; rfl
    · have h9 := hf1.2 k hk j hj
      simp only [List.mem_cons, List.not_mem_nil, or_false] at hk
      rcases hk with rfl | rfl <;> exact h9
    · rcases hu with ⟨e, he, hP⟩ | ⟨x, hx, hP, g1, g2, g3, g4⟩
      · exact Or.inl ⟨e, he, PVr.v5 hP rfl rfl rfl rfl rfl⟩
      · exact Or.inr ⟨x, hx, PVr.v5 hP rfl rfl rfl rfl rfl, g1, g2, g3, g4⟩
set_option maxHeartbeats 400000 in
theorem con_termX (d : Nat) (v : Nat → Int32) (a : Nat → Nat → Int32) (b : Nat → Nat → Int64) (K : TKS) (e : PE) (h : PVr K (.inl e) v) (B : Nat) (h40 : v 40 = nI B) (hB : B < 260) (hd : 4 ≤ d) : Con mX9_term d [.ref 0] (mW v a b) (fun r W' => W' = mW (va_up v 40 (nI (B + 1))) (va_up (va_up a 44 (upd (a 44) B (v 46))) 45 (upd (a 45) B (v 46))) b ∧ r = none) := by
  have hx13 : ¬ v 13 = 0 := by rw [h.2.1]; exact nI_nz (by have := h.1; omega) (by have := h.1; omega)
  refine Con.of (by decide) (Nat.le_of_ble_eq_true rfl) ?_
  have q1 : (v 40) = (nI B) := h40
  have q2 : (nI B).toNatClampNeg = B := nI_clamp (by omega)
  refine XG.blk tX9_term_ok 0 9 (pc' := 17) (pl' := [some (.ref 0)]) (st' := [(.int (v 13))]) (W1 := (mW v (va_up a 44 (upd (a 44) (v 40).toNatClampNeg (v 46))) b)) (bs := [px_vb (v 40) 260]) rfl rfl (by (try simp only [q1, q2]); exact (px_all (px_vbN (by omega) (by decide)) rfl)) ?_
  simp only [q1, q2]
  refine XG.br eX9_term_17 (P := ¬ (v 13) = 0) (r := []) rfl (tgt := 24) (by decide) (fun h17 => ?_) (fun h17 => ?_)
  · skip
    have q3 : (v 40) = (nI B) := h40
    have q4 : (nI B).toNatClampNeg = B := nI_clamp (by omega)
    have q5 : ((nI B) + (nI 1)) = (nI (B + 1)) := px_eadd rfl rfl
    refine XG.blk tX9_term_ok 12 13 (pc' := 47) (pl' := [some (.ref 0)]) (st' := []) (W1 := (mW (va_up v 40 ((v 40) + (nI 1))) (va_up (va_up a 44 (upd (a 44) B (v 46))) 45 (upd (a 45) (v 40).toNatClampNeg (v 46))) b)) (bs := [px_vb (v 40) 260]) rfl rfl (by (try simp only [q3, q4, q5]); exact (px_all (px_vbN (by omega) (by decide)) rfl)) ?_
    simp only [q3, q4, q5]
    refine XS.vret eX9_term_47 rfl ?_
    exact ⟨rfl, rfl⟩
  · exfalso
    have h17 := Decidable.not_not.mp h17
    exact hx13 h17
