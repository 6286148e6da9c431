/-! the reference: a law is told -/
def FrW (F Q sd : Nat) (a a' : Nat → Nat → Int32) : Prop := (∀ k, k ∉ [41, 42, 43, 44, 45, 47, 48, 49] → a' k = a k) ∧ (∀ k, k ∈ [41, 42, 43, 44, 45] → ∀ j, ¬ (F ≤ j ∧ j < 130 * sd + 130) → a' k j = a k j) ∧ (∀ k, k ∈ [47, 48] → ∀ j, ¬ (Q ≤ j ∧ j < 420 * sd + 420) → a' k j = a k j)
theorem FrW.rf {F Q sd : Nat} {a : Nat → Nat → Int32} : FrW F Q sd a a := ⟨fun _ _ => rfl, fun _ _ _ _ => rfl, fun _ _ _ _ => rfl⟩
theorem FrW.tr {F Q sd : Nat} {a a' a'' : Nat → Nat → Int32} (h : FrW F Q sd a a') (h2 : FrW F Q sd a' a'') : FrW F Q sd a a'' := ⟨fun k hk => (h2.1 k hk).trans (h.1 k hk), fun k hk j hj => (h2.2.1 k hk j hj).trans (h.2.1 k hk j hj), fun k hk j hj => (h2.2.2 k hk j hj).trans (h.2.2 k hk j hj)⟩
theorem FrW.low {F F' Q Q' sd : Nat} {a a' : Nat → Nat → Int32} (h : FrW F' Q' sd a a') (h1 : F ≤ F') (h2 : Q ≤ Q') : FrW F Q sd a a' := ⟨h.1, fun k hk j hj => h.2.1 k hk j (by omega), fun k hk j hj => h.2.2 k hk j (by omega)⟩
theorem FrW.set {F Q sd : Nat} {a : Nat → Nat → Int32} (k j : Nat) (x : Int32) (hk : k ∈ [41, 42, 43, 44, 45]) (h1 : F ≤ j) (h2 : j < 130 * sd + 130) : FrW F Q sd a (va_up a k (upd (a k) j x)) := by
  refine ⟨fun k' hk' => ?_, fun k' hk' j' hj' => ?_, fun k' hk' j' hj' => ?_⟩
  · exact if_neg (by rintro rfl; revert hk hk'; simp only [List.mem_cons, List.not_mem_nil, or_false]; omega)
  · unfold va_up
    by_cases e : k' = k
    · subst e; rw [if_pos rfl]; exact pk_un (fun e => hj' (by rw [e]; exact ⟨h1, h2⟩))
    · rw [if_neg e]
  · rw [show va_up a k (upd (a k) j x) k' = a k' from if_neg (by rintro rfl; revert hk hk'; simp only [List.mem_cons, List.not_mem_nil, or_false]; omega)]
theorem FrW.x {F Q q0 sd : Nat} {a a' : Nat → Nat → Int32} (h : FrX q0 sd a a') (h1 : Q ≤ q0) : FrW F Q sd a a' := by
  refine ⟨fun k hk => h.1 k (fun z => hk (by revert z; simp only [List.mem_cons, List.not_mem_nil, or_false]; omega)), fun k hk j hj => ?_, fun k hk j hj => h.2 k hk j (by omega)⟩
  rw [h.1 k (by revert hk; simp only [List.mem_cons, List.not_mem_nil, or_false]; omega)]
theorem FrW.tok {F Q sd : Nat} {K : TKS} {a a' : Nat → Nat → Int32} {b : Nat → Nat → Int64} (h : FrW F Q sd a a') (hT : Tok K a b) : Tok K a' b := by
  unfold Tok at hT ⊢
  rw [h.1 5 (by decide), h.1 6 (by decide), h.1 7 (by decide)]
  exact hT
theorem FrW.R {F Q sd : Nat} {v v' : Nat → Int32} {a a' : Nat → Nat → Int32} {b : Nat → Nat → Int64} (h : FrW F Q sd a a') (hF : 130 * sd ≤ F) (hQ : 420 * sd ≤ Q) (hv : chg [11, 12, 13, 14, 40, 46, 50] v v') : FrR sd v v' a a' b b := by
  refine ⟨hv.mono (by decide), fun k h1 h2 j hj => ?_, chg.rf⟩
  by_cases hk : k ∈ [41, 42, 43, 44, 45]
  · refine h.2.1 k hk j (fun z => hj ?_)
    have hs : strd k = 130 := by revert k; simp only [List.mem_cons, List.not_mem_nil, or_false]; rintro k h1 h2 hj (rfl | rfl | rfl | rfl | rfl) <;> decide
    rw [hs]; omega
  · by_cases hk2 : k ∈ [47, 48]
    · refine h.2.2 k hk2 j (fun z => hj ?_)
      have hs : strd k = 420 := by revert k; simp only [List.mem_cons, List.not_mem_nil, or_false]; rintro k h1 h2 hj _ (rfl | rfl) <;> decide
      rw [hs]; omega
    · rw [h.1 k (by revert hk hk2; simp only [List.mem_cons, List.not_mem_nil, or_false]; omega)]
theorem segR_W {F Q sd q : Nat} {a a' : Nat → Nat → Int32} {c : Cde} (h : segR a q c) (hw : FrW F Q sd a a') (hq : q + c.length ≤ Q) : segR a' q c := by
  intro i x hi
  have hil := (List.getElem?_eq_some_iff.mp hi).1
  rw [hw.2.2 47 (by decide) _ (by omega), hw.2.2 48 (by decide) _ (by omega)]
  exact h i x hi
theorem brR_W {F Q Q' sd lo f : Nat} {a a' : Nat → Nat → Int32} {br : LBr} (h : brR a lo Q f br) (hw : FrW F Q sd a a') (hf : f < F) (hq : Q ≤ Q') : brR a' lo Q' f br := by
  have e : ∀ k, k ∈ [41, 42, 43, 44, 45] → a' k f = a k f := fun k hk => hw.2.1 k hk f (by omega)
  unfold brR at h ⊢
  cases hb : br.1 with
  | none =>
    rw [hb] at h
    obtain ⟨q, h1, h2, h3, h4, h5, h6⟩ := h
    exact ⟨q, h1, by omega, by rw [e 41 (by decide)]; exact h3, by rw [e 44 (by decide)]; exact h4, by rw [e 45 (by decide)]; exact h5, segR_W h6 hw h2⟩
  | some cc =>
    rw [hb] at h
    obtain ⟨q, h1, h2, h3, h4, h5, h6, h7, h8, h9, h10⟩ := h
    exact ⟨q, h1, by omega, by rw [e 41 (by decide)]; exact h3, by rw [e 42 (by decide)]; exact h4, by rw [e 43 (by decide)]; exact h5, by rw [e 44 (by decide)]; exact h6, by rw [e 45 (by decide)]; exact h7, segR_W h8 hw (by omega), segR_W h9 hw (by omega), segR_W h10 hw (by omega)⟩
theorem LwR_W {F Q Q' B sd at' : Nat} {a a' : Nat → Nat → Int32} {lw : Option (List LBr)} (h : LwR a sd F Q lw at') (hw : FrW F Q sd a a') (hq : Q ≤ Q') (hB : F ≤ B) : LwR a' sd B Q' lw at' := by
  cases lw with
  | none => unfold LwR at h ⊢; rw [hw.1 38 (by decide), hw.1 39 (by decide)]; exact h
  | some bs =>
    obtain ⟨h0, f, h1, h2, h3, h4, h5⟩ := h
    refine ⟨h0, f, h1, by omega, by rw [hw.1 38 (by decide)]; exact h3, by rw [hw.1 39 (by decide)]; exact h4, fun i br hi => brR_W (h5 i br hi) hw ?_ hq⟩
    have := (List.getElem?_eq_some_iff.mp hi).1
    omega
def lwT (K : TKS) (k : Nat) (s : PT) (S : SD) : PE ⊕ (PT × SD) := bd (mstN K 5 s.1) (fun t2 => bd (lawS9 K 4 t2 []) (fun x => bd (mstN K 4 x.1) (fun t4 => .inr ((t4, s.2), S.1, S.2.1, S.2.2.1, S.2.2.2.1, va_up S.2.2.2.2 k (some x.2)))))
theorem mstS_N {K : TKS} {k t : Nat} {w : Option PE} : mstS K k (t, w) = bd (mstN K k t) (fun t => .inr (t, w)) := rfl
theorem mstN_inr {K : TKS} {k t t1 : Nat} (h : mstN K k t = .inr t1) : K.1 t = k ∧ t ≠ 400 ∧ t1 = t + 1 := by
  unfold mstN at h
  by_cases h1 : K.1 t = k
  · rw [if_pos h1] at h
    unfold advN at h
    by_cases h2 : t = 400
    · rw [if_pos h2] at h; cases h
    · rw [if_neg h2] at h; cases h; exact ⟨h1, h2, rfl⟩
  · rw [if_neg h1] at h; cases h
abbrev lvV : List Nat := [11, 12, 13, 14, 40, 46, 50]
theorem chgL {v0 v v' v'' : Nat → Int32} {L : List Nat} (h : chg lvV v0 v) (h2 : chg L v' v'') (e : ∀ k, k ∉ lvV → v' k = v k) (hL : ∀ k ∈ L, k ∈ lvV := by decide) : chg lvV v0 v'' := fun k hk => (h2 k (fun z => hk (hL k z))).trans ((e k hk).trans (h k hk))
theorem upL {v : Nat → Int32} {j : Nat} {x : Int32} (hj : j ∈ lvV) : ∀ k, k ∉ lvV → va_up v j x k = v k := fun k hk => if_neg (fun e => hk (by rw [e]; exact hj))
set_option maxHeartbeats 1000000 in
theorem law_go (d : Nat) (hd : 5 ≤ d) (b : Nat → Nat → Int64) (K : TKS) (k F Q sd : Nat) (hsd : sd < 2) (hk3 : k < 3) (hF : 130 * sd ≤ F) (hQ : 420 * sd ≤ Q) (v0 : Nat → Int32) (a0 : Nat → Nat → Int32) (hT : Tok K a0 b) (h19 : v0 19 = nI sd) (w : Option PE) (R : PE ⊕ (PT × SD)) (S : SD) (hRD : ∀ (t' B' Q' : Nat) (bs : List LBr) (v' : Nat → Int32) (a' : Nat → Nat → Int32), chg lvV v0 v' → FrW F Q sd a0 a' → v' 12 = nI 0 → v' 40 = nI B' → v' 46 = nI Q' → F ≤ B' → B' = F + bs.length → bs ≠ [] → 4 * B' ≤ t' + 4 * (130 * sd) → Q ≤ Q' → Q' ≤ t' + 420 * sd → (∀ i br, bs[i]? = some br → brR a' (420 * sd) Q' (F + i) br) → RD (S.1, S.2.1, S.2.2.1, S.2.2.2.1, va_up S.2.2.2.2 k (some bs)) sd t' v' (va_up (va_up a' 38 (upd (a' 38) (3 * sd + k) (nI F))) 39 (upd (a' 39) (3 * sd + k) (nI B'))) b) : ∀ n, n ≤ 4 → ∀ (t : Nat) (bs : List LBr) (v : Nat → Int32) (a : Nat → Nat → Int32) (q : Nat) (hR : bd (lawS9 K n t bs) (fun x => bd (mstN K 4 x.1) (fun t4 => .inr ((t4, w), S.1, S.2.1, S.2.2.1, S.2.2.2.1, va_up S.2.2.2.2 k (some x.2)))) = R) (h : PVr K (.inr (t, w)) v) (h12 : v 12 = nI 0) (h40 : v 40 = nI (F + bs.length)) (h46 : v 46 = nI q) (hqQ : Q ≤ q) (hqt : q ≤ t + 420 * sd) (hB4 : 4 * (F + bs.length) + 2 ≤ t + 4 * (130 * sd)) (hbs : ∀ i br, bs[i]? = some br → brR a (420 * sd) q (F + i) br) (hv : chg lvV v0 v) (ha : FrW F Q sd a0 a), XG mX9_tellLaw (px_gS d (fun r W' => ∃ v' a' b', W' = mW v' a' b' ∧ FrR sd v0 v' a0 a' b b' ∧ RQ K sd R v' a' b' ∧ r = none)) 0 0 12 [some (.ref 0), some (.int (nI k)), some (.int (nI F)), some (.int (nI (4 - n)))] [] (mW v a b) := by
  have hX12 : ∀ (e : PE) (v : Nat → Int32) (a : Nat → Nat → Int32) (B : Nat) (i : Int32), R = .inl e → PVr K (.inl e) v → v 40 = nI B → F ≤ B → B + 1 < 130 * sd + 130 → chg lvV v0 v → FrW F Q sd a0 a → XG mX9_tellLaw (px_gS d (fun r W' => ∃ v' a' b', W' = mW v' a' b' ∧ FrR sd v0 v' a0 a' b b' ∧ RQ K sd R v' a' b' ∧ r = none)) 0 0 12 [some (.ref 0), some (.int (nI k)), some (.int (nI F)), some (.int i)] [] (mW v a b) := by
    intro e v a B i hR h h40 hFB hB hv ha
    have hx13 : ¬ v 13 = 0 := by rw [h.2.1]; exact nI_nz (by have := h.1; omega) (by have := h.1; omega)
    have hx14 : ¬ v 13 ≤ 0 := by rw [h.2.1]; exact Int32.not_le.mpr (n1_pos (by have := h.1; omega) (by have := h.1; omega))
    refine XG.blk tX9_tellLaw_ok 8 2 (pc' := 16) (pl' := [some (.ref 0), some (.int (nI k)), some (.int (nI F)), some (.int i)]) (st' := [(.int (v 13))]) (W1 := (mW v a b)) (bs := []) rfl rfl rfl ?_
    refine XG.br eX9_tellLaw_16 (P := ¬ (v 13) = 0) (r := []) rfl (tgt := 129) (by decide) (fun h16 => ?_) (fun h16 => ?_)
    · skip
      have q1 : (v 40) = (nI B) := h40
      have q2 : (nI B).toNatClampNeg = B := nI_clamp (by omega)
      have q3 : (vp_nar .boolean (nI 0)) = (nI 0) := by decide
      refine XG.blk tX9_tellLaw_ok 67 7 (pc' := 140) (pl' := [some (.ref 0), some (.int (nI k)), some (.int (nI F)), some (.int i)]) (st' := [(.ref 0)]) (W1 := (mW v (va_up a 41 (upd (a 41) (v 40).toNatClampNeg (vp_nar .boolean (nI 0)))) b)) (bs := [px_vb (v 40) 260]) rfl rfl (by (try simp only [q1, q2, q3]); exact (px_all (px_vbN (by omega) (by decide)) rfl)) ?_
      simp only [q1, q2, q3]
      refine XG.callV0 eX9_tellLaw_140 kl_X9_311 (con_termX (d - 1) v (va_up a 41 (upd (a 41) B (nI 0))) b K e h B h40 (by omega) (by omega)) (px_fitS (by omega)) rfl rfl rfl (Nat.le_of_ble_eq_true rfl) (fun r9 W9 hp9 hl9 => ?_)
      obtain ⟨rfl, rfl⟩ := hp9
      refine XG.blk tX9_tellLaw_ok 75 2 (pc' := 145) (pl' := [some (.ref 0), some (.int (nI k)), some (.int (nI F)), some (.int i)]) (st' := [(.int (nI 4)), (.ref 0)]) (W1 := (mW (va_up v 40 (nI (B + 1))) (va_up (va_up (va_up a 41 (upd (a 41) B (nI 0))) 44 (upd (a 44) B (v 46))) 45 (upd (a 45) B (v 46))) b)) (bs := []) rfl rfl rfl ?_
      have hQ1 := PVr.v5 (v' := (va_up v 40 (nI (B + 1)))) h rfl rfl rfl rfl rfl
      refine XG.callV0 eX9_tellLaw_145 kl_X9_277 (con_must (d - 1) (va_up v 40 (nI (B + 1))) (va_up (va_up (va_up a 41 (upd (a 41) B (nI 0))) 44 (upd (a 44) B (v 46))) 45 (upd (a 45) B (v 46))) b K (((ha.tr (FrW.set 41 B _ (by decide) (by omega) (by omega))).tr ((FrW.set 44 B _ (by decide) (by omega) (by omega)).tr (FrW.set 45 B _ (by decide) (by omega) (by omega)))).tok hT) (.inl e) hQ1 4 (by omega) (by omega) (by omega)) (px_fitS (by omega)) rfl rfl rfl (Nat.le_of_ble_eq_true rfl) (fun r9 W9 hp9 hl9 => ?_)
      obtain ⟨v1, rfl, hc1, hP1, rfl⟩ := hp9
      have h40_1 : v1 40 = nI (B + 1) := (hc1 40 (by decide)).trans rfl
      have hx142 : ¬ v1 13 ≤ 0 := by rw [hP1.2.1]; exact Int32.not_le.mpr (n1_pos (by have := h.1; omega) (by have := h.1; omega))
      refine XG.blk tX9_tellLaw_ok 78 2 (pc' := 152) (pl' := [some (.ref 0), some (.int (nI k)), some (.int (nI F)), some (.int i)]) (st' := [(.int (v1 13))]) (W1 := (mW v1 (va_up (va_up (va_up a 41 (upd (a 41) B (nI 0))) 44 (upd (a 44) B (v 46))) 45 (upd (a 45) B (v 46))) b)) (bs := []) rfl rfl rfl ?_
      refine XG.br eX9_tellLaw_152 (P := (v1 13) ≤ 0) (r := []) rfl (tgt := 156) (by decide) (fun h152 => ?_) (fun h152 => ?_)
      · exfalso
        first | exact h16 hx13 | exact hx13 h16 | exact hx142 h152
      · skip
        refine XS.vret eX9_tellLaw_155 rfl ?_
        rw [hR]
        exact ⟨_, _, b, rfl, FrW.R ((ha.tr (FrW.set 41 B _ (by decide) (by omega) (by omega))).tr ((FrW.set 44 B _ (by decide) (by omega) (by omega)).tr (FrW.set 45 B _ (by decide) (by omega) (by omega)))) hF hQ (chgL hv hc1 (upL (by decide))), hP1, rfl⟩
    · exfalso
      have h16 := Decidable.not_not.mp h16
      first | exact h16 hx13 | exact hx13 h16 | exact hx142 h152
  have hX120 : ∀ (e : PE) (v : Nat → Int32) (a : Nat → Nat → Int32) (B : Nat) (i : Int32), R = .inl e → PVr K (.inl e) v → v 40 = nI B → F ≤ B → B + 1 < 130 * sd + 130 → chg lvV v0 v → FrW F Q sd a0 a → XG mX9_tellLaw (px_gS d (fun r W' => ∃ v' a' b', W' = mW v' a' b' ∧ FrR sd v0 v' a0 a' b b' ∧ RQ K sd R v' a' b' ∧ r = none)) 0 0 120 [some (.ref 0), some (.int (nI k)), some (.int (nI F)), some (.int i)] [] (mW v a b) := by
    intro e v a B i hR h h40 hFB hB hv ha
    have hx13 : ¬ v 13 = 0 := by rw [h.2.1]; exact nI_nz (by have := h.1; omega) (by have := h.1; omega)
    have hx14 : ¬ v 13 ≤ 0 := by rw [h.2.1]; exact Int32.not_le.mpr (n1_pos (by have := h.1; omega) (by have := h.1; omega))
    refine XG.blk tX9_tellLaw_ok 63 2 (pc' := 123) (pl' := [some (.ref 0), some (.int (nI k)), some (.int (nI F)), some (.int i)]) (st' := [(.int (nI 32)), (.ref 0)]) (W1 := (mW v a b)) (bs := []) rfl rfl rfl ?_
    refine XG.callV0 eX9_tellLaw_123 kl_X9_277 (con_must (d - 1) v a b K (ha.tok hT) (.inl e) h 32 (by omega) (by omega) (by omega)) (px_fitS (by omega)) rfl rfl rfl (Nat.le_of_ble_eq_true rfl) (fun r9 W9 hp9 hl9 => ?_)
    obtain ⟨v1, rfl, hc1, hP1, rfl⟩ := hp9
    have h40_1 : v1 40 = nI B := (hc1 40 (by decide)).trans h40
    refine XG.goto eX9_tellLaw_126 (tgt := 12) (by decide) ?_
    exact hX12 e _ _ _ _ hR hP1 h40_1 (by omega) (by omega) (chgL hv hc1 (fun _ _ => rfl)) ha
  have hX116 : ∀ (e : PE) (v : Nat → Int32) (a : Nat → Nat → Int32) (B : Nat) (i : Int32), R = .inl e → PVr K (.inl e) v → v 40 = nI B → F ≤ B → B + 2 < 130 * sd + 130 → chg lvV v0 v → FrW F Q sd a0 a → XG mX9_tellLaw (px_gS d (fun r W' => ∃ v' a' b', W' = mW v' a' b' ∧ FrR sd v0 v' a0 a' b b' ∧ RQ K sd R v' a' b' ∧ r = none)) 0 0 116 [some (.ref 0), some (.int (nI k)), some (.int (nI F)), some (.int i)] [] (mW v a b) := by
    intro e v a B i hR h h40 hFB hB hv ha
    have hx13 : ¬ v 13 = 0 := by rw [h.2.1]; exact nI_nz (by have := h.1; omega) (by have := h.1; omega)
    have hx14 : ¬ v 13 ≤ 0 := by rw [h.2.1]; exact Int32.not_le.mpr (n1_pos (by have := h.1; omega) (by have := h.1; omega))
    refine XG.blk tX9_tellLaw_ok 61 1 (pc' := 117) (pl' := [some (.ref 0), some (.int (nI k)), some (.int (nI F)), some (.int i)]) (st' := [(.ref 0)]) (W1 := (mW v a b)) (bs := []) rfl rfl rfl ?_
    refine XG.callV0 eX9_tellLaw_117 kl_X9_311 (con_termX (d - 1) v a b K e h B h40 (by omega) (by omega)) (px_fitS (by omega)) rfl rfl rfl (Nat.le_of_ble_eq_true rfl) (fun r9 W9 hp9 hl9 => ?_)
    obtain ⟨rfl, rfl⟩ := hp9
    exact hX120 e _ _ _ _ hR (PVr.v5 (v' := (va_up v 40 (nI (B + 1)))) h rfl rfl rfl rfl rfl) rfl (by omega) (by omega) (chgL hv (chg.up (S := lvV) (by decide)) (fun _ _ => rfl)) (ha.tr ((FrW.set 44 B _ (by decide) (by omega) (by omega)).tr (FrW.set 45 B _ (by decide) (by omega) (by omega))))
  have hX110 : ∀ (e : PE) (v : Nat → Int32) (a : Nat → Nat → Int32) (B : Nat) (i : Int32), R = .inl e → PVr K (.inl e) v → v 40 = nI B → F ≤ B → B + 2 < 130 * sd + 130 → chg lvV v0 v → FrW F Q sd a0 a → XG mX9_tellLaw (px_gS d (fun r W' => ∃ v' a' b', W' = mW v' a' b' ∧ FrR sd v0 v' a0 a' b b' ∧ RQ K sd R v' a' b' ∧ r = none)) 0 0 110 [some (.ref 0), some (.int (nI k)), some (.int (nI F)), some (.int i)] [] (mW v a b) := by
    intro e v a B i hR h h40 hFB hB hv ha
    have hx13 : ¬ v 13 = 0 := by rw [h.2.1]; exact nI_nz (by have := h.1; omega) (by have := h.1; omega)
    have hx14 : ¬ v 13 ≤ 0 := by rw [h.2.1]; exact Int32.not_le.mpr (n1_pos (by have := h.1; omega) (by have := h.1; omega))
    refine XG.blk tX9_tellLaw_ok 58 2 (pc' := 113) (pl' := [some (.ref 0), some (.int (nI k)), some (.int (nI F)), some (.int i)]) (st' := [(.int (nI 31)), (.ref 0)]) (W1 := (mW v a b)) (bs := []) rfl rfl rfl ?_
    refine XG.callV0 eX9_tellLaw_113 kl_X9_277 (con_must (d - 1) v a b K (ha.tok hT) (.inl e) h 31 (by omega) (by omega) (by omega)) (px_fitS (by omega)) rfl rfl rfl (Nat.le_of_ble_eq_true rfl) (fun r9 W9 hp9 hl9 => ?_)
    obtain ⟨v1, rfl, hc1, hP1, rfl⟩ := hp9
    have h40_1 : v1 40 = nI B := (hc1 40 (by decide)).trans h40
    exact hX116 e _ _ _ _ hR hP1 h40_1 (by omega) (by omega) (chgL hv hc1 (fun _ _ => rfl)) ha
  have hX86 : ∀ (e : PE) (v : Nat → Int32) (a : Nat → Nat → Int32) (B : Nat) (i : Int32), R = .inl e → PVr K (.inl e) v → v 40 = nI B → F ≤ B → B + 2 < 130 * sd + 130 → chg lvV v0 v → FrW F Q sd a0 a → XG mX9_tellLaw (px_gS d (fun r W' => ∃ v' a' b', W' = mW v' a' b' ∧ FrR sd v0 v' a0 a' b b' ∧ RQ K sd R v' a' b' ∧ r = none)) 0 0 86 [some (.ref 0), some (.int (nI k)), some (.int (nI F)), some (.int i)] [] (mW v a b) := by
    intro e v a B i hR h h40 hFB hB hv ha
    have hx13 : ¬ v 13 = 0 := by rw [h.2.1]; exact nI_nz (by have := h.1; omega) (by have := h.1; omega)
    have hx14 : ¬ v 13 ≤ 0 := by rw [h.2.1]; exact Int32.not_le.mpr (n1_pos (by have := h.1; omega) (by have := h.1; omega))
    have q1 : (v 40) = (nI B) := h40
    have q2 : (nI B).toNatClampNeg = B := nI_clamp (by omega)
    refine XG.blk tX9_tellLaw_ok 46 9 (pc' := 103) (pl' := [some (.ref 0), some (.int (nI k)), some (.int (nI F)), some (.int i)]) (st' := [(.int (v 13))]) (W1 := (mW v (va_up a 43 (upd (a 43) (v 40).toNatClampNeg (v 46))) b)) (bs := [px_vb (v 40) 260]) rfl rfl (by (try simp only [q1, q2]); exact (px_all (px_vbN (by omega) (by decide)) rfl)) ?_
    simp only [q1, q2]
    refine XG.br eX9_tellLaw_103 (P := ¬ (v 13) = 0) (r := []) rfl (tgt := 110) (by decide) (fun h103 => ?_) (fun h103 => ?_)
    · skip
      exact hX110 e _ _ _ _ hR h h40 (by omega) (by omega) hv (ha.tr (FrW.set 43 B _ (by decide) (by omega) (by omega)))
    · exfalso
      have h103 := Decidable.not_not.mp h103
      first | exact h103 hx13 | exact hx13 h103
  have hX80 : ∀ (e : PE) (v : Nat → Int32) (a : Nat → Nat → Int32) (B : Nat) (i : Int32), R = .inl e → PVr K (.inl e) v → v 40 = nI B → F ≤ B → B + 2 < 130 * sd + 130 → chg lvV v0 v → FrW F Q sd a0 a → XG mX9_tellLaw (px_gS d (fun r W' => ∃ v' a' b', W' = mW v' a' b' ∧ FrR sd v0 v' a0 a' b b' ∧ RQ K sd R v' a' b' ∧ r = none)) 0 0 80 [some (.ref 0), some (.int (nI k)), some (.int (nI F)), some (.int i)] [] (mW v a b) := by
    intro e v a B i hR h h40 hFB hB hv ha
    have hx13 : ¬ v 13 = 0 := by rw [h.2.1]; exact nI_nz (by have := h.1; omega) (by have := h.1; omega)
    have hx14 : ¬ v 13 ≤ 0 := by rw [h.2.1]; exact Int32.not_le.mpr (n1_pos (by have := h.1; omega) (by have := h.1; omega))
    refine XG.blk tX9_tellLaw_ok 43 2 (pc' := 83) (pl' := [some (.ref 0), some (.int (nI k)), some (.int (nI F)), some (.int i)]) (st' := [(.int (nI 13)), (.ref 0)]) (W1 := (mW v a b)) (bs := []) rfl rfl rfl ?_
    refine XG.callV0 eX9_tellLaw_83 kl_X9_277 (con_must (d - 1) v a b K (ha.tok hT) (.inl e) h 13 (by omega) (by omega) (by omega)) (px_fitS (by omega)) rfl rfl rfl (Nat.le_of_ble_eq_true rfl) (fun r9 W9 hp9 hl9 => ?_)
    obtain ⟨v1, rfl, hc1, hP1, rfl⟩ := hp9
    have h40_1 : v1 40 = nI B := (hc1 40 (by decide)).trans h40
    exact hX86 e _ _ _ _ hR hP1 h40_1 (by omega) (by omega) (chgL hv hc1 (fun _ _ => rfl)) ha
  have hX53 : ∀ (e : PE) (v : Nat → Int32) (a : Nat → Nat → Int32) (B : Nat) (i : Int32), R = .inl e → PVr K (.inl e) v → v 40 = nI B → F ≤ B → B + 2 < 130 * sd + 130 → chg lvV v0 v → FrW F Q sd a0 a → XG mX9_tellLaw (px_gS d (fun r W' => ∃ v' a' b', W' = mW v' a' b' ∧ FrR sd v0 v' a0 a' b b' ∧ RQ K sd R v' a' b' ∧ r = none)) 0 0 53 [some (.ref 0), some (.int (nI k)), some (.int (nI F)), some (.int i)] [] (mW v a b) := by
    intro e v a B i hR h h40 hFB hB hv ha
    have hx13 : ¬ v 13 = 0 := by rw [h.2.1]; exact nI_nz (by have := h.1; omega) (by have := h.1; omega)
    have hx14 : ¬ v 13 ≤ 0 := by rw [h.2.1]; exact Int32.not_le.mpr (n1_pos (by have := h.1; omega) (by have := h.1; omega))
    have q1 : (v 40) = (nI B) := h40
    have q2 : (nI B).toNatClampNeg = B := nI_clamp (by omega)
    have q3 : (vp_nar .boolean (nI 1)) = (nI 1) := by decide
    refine XG.blk tX9_tellLaw_ok 28 14 (pc' := 77) (pl' := [some (.ref 0), some (.int (nI k)), some (.int (nI F)), some (.int i)]) (st' := [(.ref 0)]) (W1 := (mW v (va_up (va_up a 41 (upd (a 41) (v 40).toNatClampNeg (vp_nar .boolean (nI 1)))) 42 (upd (a 42) (v 40).toNatClampNeg (v 46))) b)) (bs := [px_vb (v 40) 260, px_vb (v 40) 260]) rfl rfl (by (try simp only [q1, q2, q3]); exact (px_all (px_vbN (by omega) (by decide)) (px_all (px_vbN (by omega) (by decide)) rfl))) ?_
    simp only [q1, q2, q3]
    refine XG.callV0 eX9_tellLaw_77 kl_X9_308 (con_expressionX (d - 1) v (va_up (va_up a 41 (upd (a 41) B (nI 1))) 42 (upd (a 42) B (v 46))) b K e h) (px_fitS (by omega)) rfl rfl rfl (Nat.le_of_ble_eq_true rfl) (fun r9 W9 hp9 hl9 => ?_)
    obtain ⟨v1, rfl, hc1, hP1, rfl⟩ := hp9
    have h40_1 : v1 40 = nI B := (hc1 40 (by decide)).trans h40
    exact hX80 e _ _ _ _ hR hP1 h40_1 (by omega) (by omega) (chgL hv hc1 (fun _ _ => rfl)) ((ha.tr (FrW.set 41 B _ (by decide) (by omega) (by omega))).tr (FrW.set 42 B _ (by decide) (by omega) (by omega)))
  intro n
  induction n with
  | zero =>
    intro hn t bs v a q hR h h12 h40 h46 hqQ hqt hB4 hbs hv ha
    have hT9 := ha.tok hT
    have ht : t ≤ 400 := h.1
    have hx13 : v 13 = 0 := h.2.2.1
    have hx14 : v 13 ≤ 0 := by rw [h.2.2.1]; decide
    by_cases hk30 : K.1 t = 30
    · have eL : lawS9 K 0 t bs = .inl (2, t) := if_pos hk30
      rw [eL] at hR
      refine XG.blk tX9_tellLaw_ok 8 2 (pc' := 16) (pl' := [some (.ref 0), some (.int (nI k)), some (.int (nI F)), some (.int (nI 4))]) (st' := [(.int (v 13))]) (W1 := (mW v a b)) (bs := []) rfl rfl rfl ?_
      refine XG.br eX9_tellLaw_16 (P := ¬ (v 13) = 0) (r := []) rfl (tgt := 129) (by decide) (fun h16 => ?_) (fun h16 => ?_)
      · exfalso
        first | exact h16 hx13 | exact hx13 h16 | exact hx141 h42
      · skip
        have h16 := Decidable.not_not.mp h16
        refine XG.blk tX9_tellLaw_ok 11 2 (pc' := 22) (pl' := [some (.ref 0), some (.int (nI k)), some (.int (nI F)), some (.int (nI 4))]) (st' := [(.int (nI 30)), (.ref 0)]) (W1 := (mW v a b)) (bs := []) rfl rfl rfl ?_
        refine XG.callV0 eX9_tellLaw_22 kl_X9_233 (con_isT (d - 1) v a b K hT9 _ h 30 hk30) (px_fitS (by omega)) rfl rfl rfl (Nat.le_of_ble_eq_true rfl) (fun r9 W9 hp9 hl9 => ?_)
        obtain ⟨rfl, rfl⟩ := hp9
        refine XG.br eX9_tellLaw_25 (P := (nI 1) = 0) (r := []) rfl (tgt := 129) (by decide) (fun h25 => ?_) (fun h25 => ?_)
        · exfalso
          have g25 : 1 = 0 := (nI_eq (a := 1) (b := 0) (by omega) (by omega)).mp h25
          omega
        · skip
          have g25 : ¬ 1 = 0 := (fun z => h25 ((nI_eq (a := 1) (b := 0) (by omega) (by omega)).mpr z))
          refine XG.blk tX9_tellLaw_ok 15 2 (pc' := 30) (pl' := [some (.ref 0), some (.int (nI k)), some (.int (nI F)), some (.int (nI 4))]) (st' := [(.int (nI 4)), (.int (nI 4))]) (W1 := (mW v a b)) (bs := []) rfl rfl rfl ?_
          refine XG.br eX9_tellLaw_30 (P := ¬ (nI 4) = (nI 4)) (r := []) rfl (tgt := 38) (by decide) (fun h30 => ?_) (fun h30 => ?_)
          · exfalso
            have g30 : ¬ 4 = 4 := (fun z => h30 ((nI_eq (a := 4) (b := 4) (by omega) (by omega)).mpr z))
            omega
          · skip
            have h30 := Decidable.not_not.mp h30
            have g30 : 4 = 4 := (nI_eq (a := 4) (b := 4) (by omega) (by omega)).mp h30
            refine XG.blk tX9_tellLaw_ok 18 2 (pc' := 35) (pl' := [some (.ref 0), some (.int (nI k)), some (.int (nI F)), some (.int (nI 4))]) (st' := [(.int (nI 2)), (.ref 0)]) (W1 := (mW v a b)) (bs := []) rfl rfl rfl ?_
            refine XG.callV0 eX9_tellLaw_35 kl_X9_230 (con_failS (d - 1) v a b K hT9 _ h 2 (Or.inr rfl)) (px_fitS (by omega)) rfl rfl rfl (Nat.le_of_ble_eq_true rfl) (fun r9 W9 hp9 hl9 => ?_)
            obtain ⟨v1, rfl, hc1, hP1, rfl⟩ := hp9
            have hx141 : ¬ v1 13 ≤ 0 := by rw [hP1.2.1]; exact Int32.not_le.mpr (n1_pos (k := 2) (by decide) (by decide))
            refine XG.blk tX9_tellLaw_ok 21 2 (pc' := 42) (pl' := [some (.ref 0), some (.int (nI k)), some (.int (nI F)), some (.int (nI 4))]) (st' := [(.int (v1 13))]) (W1 := (mW v1 a b)) (bs := []) rfl rfl rfl ?_
            refine XG.br eX9_tellLaw_42 (P := (v1 13) ≤ 0) (r := []) rfl (tgt := 46) (by decide) (fun h42 => ?_) (fun h42 => ?_)
            · exfalso
              first | exact h16 hx13 | exact hx13 h16 | exact hx141 h42
            · skip
              refine XS.vret eX9_tellLaw_45 rfl ?_
              rw [← hR]
              exact ⟨_, _, b, rfl, FrW.R ha hF hQ (chgL hv hc1 (fun _ _ => rfl)), hP1, rfl⟩
    · have eL : lawS9 K 0 t bs = bd (exS K 6 t) (fun x => .inr (x.1, bs ++ [(none, x.2)])) := if_neg hk30
      rw [eL] at hR
      refine XG.blk tX9_tellLaw_ok 8 2 (pc' := 16) (pl' := [some (.ref 0), some (.int (nI k)), some (.int (nI F)), some (.int (nI (4 - 0)))]) (st' := [(.int (v 13))]) (W1 := (mW v a b)) (bs := []) rfl rfl rfl ?_
      refine XG.br eX9_tellLaw_16 (P := ¬ (v 13) = 0) (r := []) rfl (tgt := 129) (by decide) (fun h16 => ?_) (fun h16 => ?_)
      · exfalso
        first | exact h16 hx13 | exact hx13 h16 | exact hx142 h152 | exact h152 hx142
      · skip
        have h16 := Decidable.not_not.mp h16
        refine XG.blk tX9_tellLaw_ok 11 2 (pc' := 22) (pl' := [some (.ref 0), some (.int (nI k)), some (.int (nI F)), some (.int (nI (4 - 0)))]) (st' := [(.int (nI 30)), (.ref 0)]) (W1 := (mW v a b)) (bs := []) rfl rfl rfl ?_
        refine XG.callV0 eX9_tellLaw_22 kl_X9_233 (con_isF (d - 1) v a b K hT9 _ h 30 hk30 (by decide)) (px_fitS (by omega)) rfl rfl rfl (Nat.le_of_ble_eq_true rfl) (fun r9 W9 hp9 hl9 => ?_)
        obtain ⟨rfl, rfl⟩ := hp9
        refine XG.br eX9_tellLaw_25 (P := (nI 0) = 0) (r := []) rfl (tgt := 129) (by decide) (fun h25 => ?_) (fun h25 => ?_)
        · skip
          have g25 : 0 = 0 := (nI_eq (a := 0) (b := 0) (by omega) (by omega)).mp h25
          have q1 : (v 40) = (nI (F + bs.length)) := h40
          have q2 : (nI (F + bs.length)).toNatClampNeg = (F + bs.length) := nI_clamp (by omega)
          have q3 : (vp_nar .boolean (nI 0)) = (nI 0) := by decide
          refine XG.blk tX9_tellLaw_ok 67 7 (pc' := 140) (pl' := [some (.ref 0), some (.int (nI k)), some (.int (nI F)), some (.int (nI (4 - 0)))]) (st' := [(.ref 0)]) (W1 := (mW v (va_up a 41 (upd (a 41) (v 40).toNatClampNeg (vp_nar .boolean (nI 0)))) b)) (bs := [px_vb (v 40) 260]) rfl rfl (by (try simp only [q1, q2, q3]); exact (px_all (px_vbN (by omega) (by decide)) rfl)) ?_
          simp only [q1, q2, q3]
          refine XG.callV0 eX9_tellLaw_140 kl_X9_311 (con_term (d - 1) v (va_up a 41 (upd (a 41) (F + bs.length) (nI 0))) b K ((ha.tr (FrW.set 41 (F + bs.length) _ (by decide) (by omega) (by omega))).tok hT) t w h h12 q sd (F + bs.length) hsd h46 (by omega) (by omega) h40 (by omega) (by omega)) (px_fitS (by omega)) rfl rfl rfl (Nat.le_of_ble_eq_true rfl) (fun r9 W9 hp9 hl9 => ?_)
          obtain ⟨v1, a1, rfl, hc1, hf1, g40_1, rfl, hu1⟩ := hp9
          rcases hu1 with ⟨e, he, hP1⟩ | ⟨x, he, hP1, e12_1, e46_1, sg1, eq1⟩
          · rw [he] at hR
            refine XG.blk tX9_tellLaw_ok 75 2 (pc' := 145) (pl' := [some (.ref 0), some (.int (nI k)), some (.int (nI F)), some (.int (nI (4 - 0)))]) (st' := [(.int (nI 4)), (.ref 0)]) (W1 := (mW v1 a1 b)) (bs := []) rfl rfl rfl ?_
            refine XG.callV0 eX9_tellLaw_145 kl_X9_277 (con_must (d - 1) v1 a1 b K ((((ha.tr (FrW.set 41 (F + bs.length) _ (by decide) (by omega) (by omega))).tr ((FrW.set 44 (F + bs.length) _ (by decide) (by omega) (by omega)).tr (FrW.set 45 (F + bs.length) _ (by decide) (by omega) (by omega)))).tr (FrW.x hf1 (by omega))).tok hT) (.inl e) hP1 4 (by omega) (by omega) (by omega)) (px_fitS (by omega)) rfl rfl rfl (Nat.le_of_ble_eq_true rfl) (fun r9 W9 hp9 hl9 => ?_)
            obtain ⟨v21, rfl, hc21, hP21, rfl⟩ := hp9
            have h40_21 : v21 40 = nI ((F + bs.length) + 1) := (hc21 40 (by decide)).trans g40_1
            have hx142 : ¬ v21 13 ≤ 0 := by rw [hP21.2.1]; exact Int32.not_le.mpr (n1_pos (by have := hP21.1; omega) (by have := hP21.1; omega))
            refine XG.blk tX9_tellLaw_ok 78 2 (pc' := 152) (pl' := [some (.ref 0), some (.int (nI k)), some (.int (nI F)), some (.int (nI (4 - 0)))]) (st' := [(.int (v21 13))]) (W1 := (mW v21 a1 b)) (bs := []) rfl rfl rfl ?_
            refine XG.br eX9_tellLaw_152 (P := (v21 13) ≤ 0) (r := []) rfl (tgt := 156) (by decide) (fun h152 => ?_) (fun h152 => ?_)
            · exfalso
              first | exact h16 hx13 | exact hx13 h16 | exact hx142 h152 | exact h152 hx142
            · skip
              refine XS.vret eX9_tellLaw_155 rfl ?_
              rw [← hR]
              exact ⟨_, _, b, rfl, FrW.R (((ha.tr (FrW.set 41 (F + bs.length) _ (by decide) (by omega) (by omega))).tr ((FrW.set 44 (F + bs.length) _ (by decide) (by omega) (by omega)).tr (FrW.set 45 (F + bs.length) _ (by decide) (by omega) (by omega)))).tr (FrW.x hf1 (by omega))) hF hQ (chgL (chgL hv hc1 (fun _ _ => rfl)) hc21 (fun _ _ => rfl)), hP21, rfl⟩
          · rw [he] at hR
            simp only [bd_inr] at hR
            have hE1 := exS_lt (by omega) (by omega) he
            refine XG.blk tX9_tellLaw_ok 75 2 (pc' := 145) (pl' := [some (.ref 0), some (.int (nI k)), some (.int (nI F)), some (.int (nI (4 - 0)))]) (st' := [(.int (nI 4)), (.ref 0)]) (W1 := (mW v1 a1 b)) (bs := []) rfl rfl rfl ?_
            refine XG.callV0 eX9_tellLaw_145 kl_X9_277 (con_must (d - 1) v1 a1 b K ((((ha.tr (FrW.set 41 (F + bs.length) _ (by decide) (by omega) (by omega))).tr ((FrW.set 44 (F + bs.length) _ (by decide) (by omega) (by omega)).tr (FrW.set 45 (F + bs.length) _ (by decide) (by omega) (by omega)))).tr (FrW.x hf1 (by omega))).tok hT) _ hP1 4 (by omega) (by omega) (by omega)) (px_fitS (by omega)) rfl rfl rfl (Nat.le_of_ble_eq_true rfl) (fun r9 W9 hp9 hl9 => ?_)
            obtain ⟨v2, rfl, hc2, hP2, rfl⟩ := hp9
            have g40_2 : v2 40 = nI ((F + bs.length) + 1) := (hc2 40 (by decide)).trans g40_1
            cases hm2 : mstN K 4 x.1 with
            | inl e =>
              rw [hm2] at hR
              have hP2 : PVr K (.inl e) v2 := by
                have h9 : PVr K (mstS K 4 (x.1, w)) v2 := hP2
                rw [mstS_N, hm2] at h9
                exact h9
              have hx142 : ¬ v2 13 ≤ 0 := by rw [hP2.2.1]; exact Int32.not_le.mpr (n1_pos (by have := hP2.1; omega) (by have := hP2.1; omega))
              refine XG.blk tX9_tellLaw_ok 78 2 (pc' := 152) (pl' := [some (.ref 0), some (.int (nI k)), some (.int (nI F)), some (.int (nI (4 - 0)))]) (st' := [(.int (v2 13))]) (W1 := (mW v2 a1 b)) (bs := []) rfl rfl rfl ?_
              refine XG.br eX9_tellLaw_152 (P := (v2 13) ≤ 0) (r := []) rfl (tgt := 156) (by decide) (fun h152 => ?_) (fun h152 => ?_)
              · exfalso
                first | exact h16 hx13 | exact hx13 h16 | exact hx142 h152 | exact h152 hx142
              · skip
                refine XS.vret eX9_tellLaw_155 rfl ?_
                rw [← hR]
                exact ⟨_, _, b, rfl, FrW.R (((ha.tr (FrW.set 41 (F + bs.length) _ (by decide) (by omega) (by omega))).tr ((FrW.set 44 (F + bs.length) _ (by decide) (by omega) (by omega)).tr (FrW.set 45 (F + bs.length) _ (by decide) (by omega) (by omega)))).tr (FrW.x hf1 (by omega))) hF hQ (chgL (chgL hv hc1 (fun _ _ => rfl)) hc2 (fun _ _ => rfl)), hP2, rfl⟩
            | inr t4 =>
              rw [hm2] at hR
              simp only [bd_inr] at hR
              have hP2 : PVr K (.inr (t4, w)) v2 := by
                have h9 : PVr K (mstS K 4 (x.1, w)) v2 := hP2
                rw [mstS_N, hm2] at h9
                exact h9
              have hp2 := mstN_inr hm2
              have ht2 : t4 ≤ 400 := hP2.1
              have f2_40 : v2 40 = nI ((F + bs.length) + 1) := (hc2 40 (by decide)).trans g40_1
              have f2_12 : v2 12 = nI 0 := (hc2 12 (by decide)).trans e12_1
              have f2_46 : v2 46 = nI (q + x.2.length) := (hc2 46 (by decide)).trans e46_1
              have hx142 : v2 13 ≤ 0 := by rw [hP2.2.2.1]; decide
              refine XG.blk tX9_tellLaw_ok 78 2 (pc' := 152) (pl' := [some (.ref 0), some (.int (nI k)), some (.int (nI F)), some (.int (nI (4 - 0)))]) (st' := [(.int (v2 13))]) (W1 := (mW v2 a1 b)) (bs := []) rfl rfl rfl ?_
              refine XG.br eX9_tellLaw_152 (P := (v2 13) ≤ 0) (r := []) rfl (tgt := 156) (by decide) (fun h152 => ?_) (fun h152 => ?_)
              · skip
                have q4 : (v2 19) = (nI sd) := ((chgL (chgL hv hc1 (fun _ _ => rfl)) hc2 (fun _ _ => rfl)) 19 (by decide)).trans h19
                have q5 : ((nI 3) * (nI sd)) = (nI (3 * sd)) := px_emul rfl rfl
                have q6 : ((nI (3 * sd)) + (nI k)) = (nI ((3 * sd) + k)) := px_eadd rfl rfl
                have q7 : (nI ((3 * sd) + k)).toNatClampNeg = ((3 * sd) + k) := nI_clamp (by omega)
                have q8 : (v2 40) = (nI ((F + bs.length) + 1)) := f2_40
                refine XG.blk tX9_tellLaw_ok 82 21 (pc' := 187) (pl' := [some (.ref 0), some (.int (nI k)), some (.int (nI F)), some (.int (nI (4 - 0)))]) (st' := []) (W1 := (mW v2 (va_up (va_up a1 38 (upd (a1 38) (((nI 3) * (v2 19)) + (nI k)).toNatClampNeg (nI F))) 39 (upd (a1 39) (((nI 3) * (v2 19)) + (nI k)).toNatClampNeg (v2 40))) b)) (bs := [px_vb (((nI 3) * (v2 19)) + (nI k)) 6, px_vb (((nI 3) * (v2 19)) + (nI k)) 6]) rfl rfl (by (try simp only [q4, q5, q6, q7, q8]); exact (px_all (px_vbN (by omega) (by decide)) (px_all (px_vbN (by omega) (by decide)) rfl))) ?_
                simp only [q4, q5, q6, q7, q8]
                refine XS.vret eX9_tellLaw_187 rfl ?_
                have hW1 : FrW (F + bs.length) q sd a a1 := (FrW.set 41 (F + bs.length) _ (by decide) (by omega) (by omega)).tr (((FrW.set 44 (F + bs.length) _ (by decide) (by omega) (by omega)).tr (FrW.set 45 (F + bs.length) _ (by decide) (by omega) (by omega))).tr (FrW.x hf1 (by omega)))
                have hRR := hRD t4 (F + bs.length + 1) (q + x.2.length) (bs ++ [(none, x.2)]) v2 a1 (chgL (chgL hv hc1 (fun _ _ => rfl)) hc2 (fun _ _ => rfl)) ((((ha.tr (FrW.set 41 (F + bs.length) _ (by decide) (by omega) (by omega))).tr ((FrW.set 44 (F + bs.length) _ (by decide) (by omega) (by omega)).tr (FrW.set 45 (F + bs.length) _ (by decide) (by omega) (by omega)))).tr (FrW.x hf1 (by omega)))) f2_12 f2_40 f2_46 (by omega) (by simp; omega) (by simp) (by omega) (by omega) (by omega) (fun i br hi => by
                  by_cases hil : i < bs.length
                  · rw [List.getElem?_append_left hil] at hi
                    exact brR_W (hbs i br hi) hW1 (by omega) (by omega)
                  · rw [List.getElem?_append_right (by omega)] at hi
                    have h9 := (List.getElem?_eq_some_iff.mp hi).1
                    simp at h9
                    obtain rfl : i = bs.length := by omega
                    rw [Nat.sub_self] at hi
                    cases hi
                    refine ⟨q, by omega, by simp, ?_, ?_, ?_, sg1⟩
                    · rw [hf1.1 41 (by decide)]; exact pk_us
                    · rw [hf1.1 44 (by decide)]; exact pk_us
                    · rw [hf1.1 45 (by decide)]; show upd _ _ (v1 46) _ = _; rw [pk_us]; exact e46_1)
                rw [← hR]
                refine ⟨_, _, b, rfl, ?_, ⟨hP2, hRR⟩, rfl⟩
                refine (FrW.R (b := b) (((ha.tr (FrW.set 41 (F + bs.length) _ (by decide) (by omega) (by omega))).tr ((FrW.set 44 (F + bs.length) _ (by decide) (by omega) (by omega)).tr (FrW.set 45 (F + bs.length) _ (by decide) (by omega) (by omega)))).tr (FrW.x hf1 (by omega))) hF hQ (chgL (chgL hv hc1 (fun _ _ => rfl)) hc2 (fun _ _ => rfl))).tr ((FrR.set 38 (3 * sd + k) _ (by rw [show strd 38 = 3 from by decide]; omega) (by rw [show strd 38 = 3 from by decide]; omega)).tr (FrR.set 39 (3 * sd + k) _ (by rw [show strd 39 = 3 from by decide]; omega) (by rw [show strd 39 = 3 from by decide]; omega)))
              · exfalso
                first | exact h16 hx13 | exact hx13 h16 | exact hx142 h152 | exact h152 hx142
        · exfalso
          have g25 : ¬ 0 = 0 := (fun z => h25 ((nI_eq (a := 0) (b := 0) (by omega) (by omega)).mpr z))
          omega
  | succ n ih =>
    intro hn t bs v a q hR h h12 h40 h46 hqQ hqt hB4 hbs hv ha
    have hT9 := ha.tok hT
    have ht : t ≤ 400 := h.1
    have hx13 : v 13 = 0 := h.2.2.1
    have hx14 : v 13 ≤ 0 := by rw [h.2.2.1]; decide
    by_cases hk30 : K.1 t = 30
    · have eL : lawS9 K (n + 1) t bs = bd (advN t) (fun t1 => bd (exS K 6 t1) (fun x => bd (mstN K 13 x.1) (fun t3 => bd (exS K 6 t3) (fun y => bd (mstN K 31 y.1) (fun t5 => bd (exS K 6 t5) (fun z => bd (mstN K 32 z.1) (fun t7 => lawS9 K n t7 (bs ++ [(some (x.2, y.2), z.2)])))))))) := if_pos hk30
      rw [eL] at hR
      refine XG.blk tX9_tellLaw_ok 8 2 (pc' := 16) (pl' := [some (.ref 0), some (.int (nI k)), some (.int (nI F)), some (.int (nI (4 - (n + 1))))]) (st' := [(.int (v 13))]) (W1 := (mW v a b)) (bs := []) rfl rfl rfl ?_
      refine XG.br eX9_tellLaw_16 (P := ¬ (v 13) = 0) (r := []) rfl (tgt := 129) (by decide) (fun h16 => ?_) (fun h16 => ?_)
      · exfalso
        first | exact h16 hx13 | exact hx13 h16 | exact h42 hx14 | exact h103 hy13_3
      · skip
        have h16 := Decidable.not_not.mp h16
        refine XG.blk tX9_tellLaw_ok 11 2 (pc' := 22) (pl' := [some (.ref 0), some (.int (nI k)), some (.int (nI F)), some (.int (nI (4 - (n + 1))))]) (st' := [(.int (nI 30)), (.ref 0)]) (W1 := (mW v a b)) (bs := []) rfl rfl rfl ?_
        refine XG.callV0 eX9_tellLaw_22 kl_X9_233 (con_isT (d - 1) v a b K hT9 _ h 30 hk30) (px_fitS (by omega)) rfl rfl rfl (Nat.le_of_ble_eq_true rfl) (fun r9 W9 hp9 hl9 => ?_)
        obtain ⟨rfl, rfl⟩ := hp9
        refine XG.br eX9_tellLaw_25 (P := (nI 1) = 0) (r := []) rfl (tgt := 129) (by decide) (fun h25 => ?_) (fun h25 => ?_)
        · exfalso
          have g25 : 1 = 0 := (nI_eq (a := 1) (b := 0) (by omega) (by omega)).mp h25
          omega
        · skip
          have g25 : ¬ 1 = 0 := (fun z => h25 ((nI_eq (a := 1) (b := 0) (by omega) (by omega)).mpr z))
          refine XG.blk tX9_tellLaw_ok 15 2 (pc' := 30) (pl' := [some (.ref 0), some (.int (nI k)), some (.int (nI F)), some (.int (nI (4 - (n + 1))))]) (st' := [(.int (nI 4)), (.int (nI (4 - (n + 1))))]) (W1 := (mW v a b)) (bs := []) rfl rfl rfl ?_
          refine XG.br eX9_tellLaw_30 (P := ¬ (nI (4 - (n + 1))) = (nI 4)) (r := []) rfl (tgt := 38) (by decide) (fun h30 => ?_) (fun h30 => ?_)
          · skip
            have g30 : ¬ (4 - (n + 1)) = 4 := (fun z => h30 ((nI_eq (a := (4 - (n + 1))) (b := 4) (by omega) (by omega)).mpr z))
            refine XG.blk tX9_tellLaw_ok 21 2 (pc' := 42) (pl' := [some (.ref 0), some (.int (nI k)), some (.int (nI F)), some (.int (nI (4 - (n + 1))))]) (st' := [(.int (v 13))]) (W1 := (mW v a b)) (bs := []) rfl rfl rfl ?_
            refine XG.br eX9_tellLaw_42 (P := (v 13) ≤ 0) (r := []) rfl (tgt := 46) (by decide) (fun h42 => ?_) (fun h42 => ?_)
            · skip
              have q1 : ((nI (4 - (n + 1))) + (nI 1)) = (nI ((4 - (n + 1)) + 1)) := px_eadd rfl rfl
              refine XG.blk tX9_tellLaw_ok 25 2 (pc' := 50) (pl' := [some (.ref 0), some (.int (nI k)), some (.int (nI F)), some (.int ((nI (4 - (n + 1))) + (nI 1)))]) (st' := [(.ref 0)]) (W1 := (mW v a b)) (bs := []) rfl rfl rfl ?_
              simp only [q1]
              refine XG.callV0 eX9_tellLaw_50 kl_X9_236 (con_goS (d - 1) v a b K hT9 _ h (show K.1 t ≠ 0 by omega) (by omega)) (px_fitS (by omega)) rfl rfl rfl (Nat.le_of_ble_eq_true rfl) (fun r9 W9 hp9 hl9 => ?_)
              obtain ⟨v1, rfl, hc1, hP1, rfl⟩ := hp9
              have g40_1 : v1 40 = nI (F + bs.length) := (hc1 40 (by decide)).trans h40
              cases hm1 : advN t with
              | inl e =>
                rw [hm1] at hR
                have hP1 : PVr K (.inl e) v1 := by
                  have h9 : PVr K (bd (advN t) (fun t => .inr (t, w))) v1 := hP1
                  rw [hm1] at h9
                  exact h9
                exact hX53 e _ _ _ _ hR.symm hP1 g40_1 (by omega) (by omega) (chgL hv hc1 (fun _ _ => rfl)) ha
              | inr t1 =>
                rw [hm1] at hR
                simp only [bd_inr] at hR
                have hP1 : PVr K (.inr (t1, w)) v1 := by
                  have h9 : PVr K (bd (advN t) (fun t => .inr (t, w))) v1 := hP1
                  rw [hm1] at h9
                  exact h9
                have hp1 := advN_inr hm1 ht
                have ht1 : t1 ≤ 400 := hP1.1
                have f1_40 : v1 40 = nI (F + bs.length) := (hc1 40 (by decide)).trans h40
                have f1_12 : v1 12 = nI 0 := (hc1 12 (by decide)).trans h12
                have f1_46 : v1 46 = nI q := (hc1 46 (by decide)).trans h46
                have q2 : (v1 40) = (nI (F + bs.length)) := f1_40
                have q3 : (nI (F + bs.length)).toNatClampNeg = (F + bs.length) := nI_clamp (by omega)
                have q4 : (vp_nar .boolean (nI 1)) = (nI 1) := by decide
                have q5 : (v1 46) = (nI q) := f1_46
                refine XG.blk tX9_tellLaw_ok 28 14 (pc' := 77) (pl' := [some (.ref 0), some (.int (nI k)), some (.int (nI F)), some (.int (nI ((4 - (n + 1)) + 1)))]) (st' := [(.ref 0)]) (W1 := (mW v1 (va_up (va_up a 41 (upd (a 41) (v1 40).toNatClampNeg (vp_nar .boolean (nI 1)))) 42 (upd (a 42) (v1 40).toNatClampNeg (v1 46))) b)) (bs := [px_vb (v1 40) 260, px_vb (v1 40) 260]) rfl rfl (by (try simp only [q2, q3, q4, q5]); exact (px_all (px_vbN (by omega) (by decide)) (px_all (px_vbN (by omega) (by decide)) rfl))) ?_
                simp only [q2, q3, q4, q5]
                refine XG.callV0 eX9_tellLaw_77 kl_X9_308 (con_expression (d - 1) v1 (va_up (va_up a 41 (upd (a 41) (F + bs.length) (nI 1))) 42 (upd (a 42) (F + bs.length) (nI q))) b K (((ha.tr (FrW.set 41 (F + bs.length) _ (by decide) (by omega) (by omega))).tr (FrW.set 42 (F + bs.length) _ (by decide) (by omega) (by omega))).tok hT) t1 w hP1 f1_12 q sd hsd f1_46 (by omega) (by omega) (by omega)) (px_fitS (by omega)) rfl rfl rfl (Nat.le_of_ble_eq_true rfl) (fun r9 W9 hp9 hl9 => ?_)
                obtain ⟨v2, a2, rfl, hc2, hf2, rfl, hu2⟩ := hp9
                have g40_2 : v2 40 = nI (F + bs.length) := (hc2 40 (by decide)).trans f1_40
                rcases hu2 with ⟨e, he, hP2⟩ | ⟨x, he, hP2, e12_2, e46_2, sg2, eq2⟩
                · rw [he] at hR
                  exact hX80 e _ _ _ _ hR.symm hP2 g40_2 (by omega) (by omega) (chgL (chgL hv hc1 (fun _ _ => rfl)) hc2 (fun _ _ => rfl)) (((ha.tr (FrW.set 41 (F + bs.length) _ (by decide) (by omega) (by omega))).tr (FrW.set 42 (F + bs.length) _ (by decide) (by omega) (by omega))).tr (FrW.x hf2 (by omega)))
                · rw [he] at hR
                  simp only [bd_inr] at hR
                  have hE2 := exS_lt (by omega) (by omega) he
                  refine XG.blk tX9_tellLaw_ok 43 2 (pc' := 83) (pl' := [some (.ref 0), some (.int (nI k)), some (.int (nI F)), some (.int (nI ((4 - (n + 1)) + 1)))]) (st' := [(.int (nI 13)), (.ref 0)]) (W1 := (mW v2 a2 b)) (bs := []) rfl rfl rfl ?_
                  refine XG.callV0 eX9_tellLaw_83 kl_X9_277 (con_must (d - 1) v2 a2 b K ((((ha.tr (FrW.set 41 (F + bs.length) _ (by decide) (by omega) (by omega))).tr (FrW.set 42 (F + bs.length) _ (by decide) (by omega) (by omega))).tr (FrW.x hf2 (by omega))).tok hT) _ hP2 13 (by omega) (by omega) (by omega)) (px_fitS (by omega)) rfl rfl rfl (Nat.le_of_ble_eq_true rfl) (fun r9 W9 hp9 hl9 => ?_)
                  obtain ⟨v3, rfl, hc3, hP3, rfl⟩ := hp9
                  have g40_3 : v3 40 = nI (F + bs.length) := (hc3 40 (by decide)).trans g40_2
                  cases hm3 : mstN K 13 x.1 with
                  | inl e =>
                    rw [hm3] at hR
                    have hP3 : PVr K (.inl e) v3 := by
                      have h9 : PVr K (mstS K 13 (x.1, w)) v3 := hP3
                      rw [mstS_N, hm3] at h9
                      exact h9
                    exact hX86 e _ _ _ _ hR.symm hP3 g40_3 (by omega) (by omega) (chgL (chgL (chgL hv hc1 (fun _ _ => rfl)) hc2 (fun _ _ => rfl)) hc3 (fun _ _ => rfl)) (((ha.tr (FrW.set 41 (F + bs.length) _ (by decide) (by omega) (by omega))).tr (FrW.set 42 (F + bs.length) _ (by decide) (by omega) (by omega))).tr (FrW.x hf2 (by omega)))
                  | inr t3 =>
                    rw [hm3] at hR
                    simp only [bd_inr] at hR
                    have hP3 : PVr K (.inr (t3, w)) v3 := by
                      have h9 : PVr K (mstS K 13 (x.1, w)) v3 := hP3
                      rw [mstS_N, hm3] at h9
                      exact h9
                    have hp3 := mstN_inr hm3
                    have ht3 : t3 ≤ 400 := hP3.1
                    have f3_40 : v3 40 = nI (F + bs.length) := (hc3 40 (by decide)).trans g40_2
                    have f3_12 : v3 12 = nI 0 := (hc3 12 (by decide)).trans e12_2
                    have f3_46 : v3 46 = nI (q + x.2.length) := (hc3 46 (by decide)).trans e46_2
                    have hy13_3 : v3 13 = 0 := hP3.2.2.1
                    have q6 : (v3 40) = (nI (F + bs.length)) := f3_40
                    have q7 : (v3 46) = (nI (q + x.2.length)) := f3_46
                    have q8 : (nI (F + bs.length)).toNatClampNeg = (F + bs.length) := nI_clamp (by omega)
                    refine XG.blk tX9_tellLaw_ok 46 9 (pc' := 103) (pl' := [some (.ref 0), some (.int (nI k)), some (.int (nI F)), some (.int (nI ((4 - (n + 1)) + 1)))]) (st' := [(.int (v3 13))]) (W1 := (mW v3 (va_up a2 43 (upd (a2 43) (v3 40).toNatClampNeg (v3 46))) b)) (bs := [px_vb (v3 40) 260]) rfl rfl (by (try simp only [q6, q7, q8]); exact (px_all (px_vbN (by omega) (by decide)) rfl)) ?_
                    simp only [q6, q7, q8]
                    refine XG.br eX9_tellLaw_103 (P := ¬ (v3 13) = 0) (r := []) rfl (tgt := 110) (by decide) (fun h103 => ?_) (fun h103 => ?_)
                    · exfalso
                      first | exact h16 hx13 | exact hx13 h16 | exact h42 hx14 | exact h103 hy13_3
                    · skip
                      have h103 := Decidable.not_not.mp h103
                      refine XG.blk tX9_tellLaw_ok 56 1 (pc' := 107) (pl' := [some (.ref 0), some (.int (nI k)), some (.int (nI F)), some (.int (nI ((4 - (n + 1)) + 1)))]) (st' := [(.ref 0)]) (W1 := (mW v3 (va_up a2 43 (upd (a2 43) (F + bs.length) (nI (q + x.2.length)))) b)) (bs := []) rfl rfl rfl ?_
                      refine XG.callV0 eX9_tellLaw_107 kl_X9_308 (con_expression (d - 1) v3 (va_up a2 43 (upd (a2 43) (F + bs.length) (nI (q + x.2.length)))) b K (((((ha.tr (FrW.set 41 (F + bs.length) _ (by decide) (by omega) (by omega))).tr (FrW.set 42 (F + bs.length) _ (by decide) (by omega) (by omega))).tr (FrW.x hf2 (by omega))).tr (FrW.set 43 (F + bs.length) _ (by decide) (by omega) (by omega))).tok hT) t3 w hP3 f3_12 (q + x.2.length) sd hsd f3_46 (by omega) (by omega) (by omega)) (px_fitS (by omega)) rfl rfl rfl (Nat.le_of_ble_eq_true rfl) (fun r9 W9 hp9 hl9 => ?_)
                      obtain ⟨v4, a4, rfl, hc4, hf4, rfl, hu4⟩ := hp9
                      have g40_4 : v4 40 = nI (F + bs.length) := (hc4 40 (by decide)).trans f3_40
                      rcases hu4 with ⟨e, he, hP4⟩ | ⟨y, he, hP4, e12_4, e46_4, sg4, eq4⟩
                      · rw [he] at hR
                        exact hX110 e _ _ _ _ hR.symm hP4 g40_4 (by omega) (by omega) (chgL (chgL (chgL (chgL hv hc1 (fun _ _ => rfl)) hc2 (fun _ _ => rfl)) hc3 (fun _ _ => rfl)) hc4 (fun _ _ => rfl)) (((((ha.tr (FrW.set 41 (F + bs.length) _ (by decide) (by omega) (by omega))).tr (FrW.set 42 (F + bs.length) _ (by decide) (by omega) (by omega))).tr (FrW.x hf2 (by omega))).tr (FrW.set 43 (F + bs.length) _ (by decide) (by omega) (by omega))).tr (FrW.x hf4 (by omega)))
                      · rw [he] at hR
                        simp only [bd_inr] at hR
                        have hE4 := exS_lt (by omega) (by omega) he
                        refine XG.blk tX9_tellLaw_ok 58 2 (pc' := 113) (pl' := [some (.ref 0), some (.int (nI k)), some (.int (nI F)), some (.int (nI ((4 - (n + 1)) + 1)))]) (st' := [(.int (nI 31)), (.ref 0)]) (W1 := (mW v4 a4 b)) (bs := []) rfl rfl rfl ?_
                        refine XG.callV0 eX9_tellLaw_113 kl_X9_277 (con_must (d - 1) v4 a4 b K ((((((ha.tr (FrW.set 41 (F + bs.length) _ (by decide) (by omega) (by omega))).tr (FrW.set 42 (F + bs.length) _ (by decide) (by omega) (by omega))).tr (FrW.x hf2 (by omega))).tr (FrW.set 43 (F + bs.length) _ (by decide) (by omega) (by omega))).tr (FrW.x hf4 (by omega))).tok hT) _ hP4 31 (by omega) (by omega) (by omega)) (px_fitS (by omega)) rfl rfl rfl (Nat.le_of_ble_eq_true rfl) (fun r9 W9 hp9 hl9 => ?_)
                        obtain ⟨v5, rfl, hc5, hP5, rfl⟩ := hp9
                        have g40_5 : v5 40 = nI (F + bs.length) := (hc5 40 (by decide)).trans g40_4
                        cases hm5 : mstN K 31 y.1 with
                        | inl e =>
                          rw [hm5] at hR
                          have hP5 : PVr K (.inl e) v5 := by
                            have h9 : PVr K (mstS K 31 (y.1, w)) v5 := hP5
                            rw [mstS_N, hm5] at h9
                            exact h9
                          exact hX116 e _ _ _ _ hR.symm hP5 g40_5 (by omega) (by omega) (chgL (chgL (chgL (chgL (chgL hv hc1 (fun _ _ => rfl)) hc2 (fun _ _ => rfl)) hc3 (fun _ _ => rfl)) hc4 (fun _ _ => rfl)) hc5 (fun _ _ => rfl)) (((((ha.tr (FrW.set 41 (F + bs.length) _ (by decide) (by omega) (by omega))).tr (FrW.set 42 (F + bs.length) _ (by decide) (by omega) (by omega))).tr (FrW.x hf2 (by omega))).tr (FrW.set 43 (F + bs.length) _ (by decide) (by omega) (by omega))).tr (FrW.x hf4 (by omega)))
                        | inr t5 =>
                          rw [hm5] at hR
                          simp only [bd_inr] at hR
                          have hP5 : PVr K (.inr (t5, w)) v5 := by
                            have h9 : PVr K (mstS K 31 (y.1, w)) v5 := hP5
                            rw [mstS_N, hm5] at h9
                            exact h9
                          have hp5 := mstN_inr hm5
                          have ht5 : t5 ≤ 400 := hP5.1
                          have f5_40 : v5 40 = nI (F + bs.length) := (hc5 40 (by decide)).trans g40_4
                          have f5_12 : v5 12 = nI 0 := (hc5 12 (by decide)).trans e12_4
                          have f5_46 : v5 46 = nI ((q + x.2.length) + y.2.length) := (hc5 46 (by decide)).trans e46_4
                          refine XG.blk tX9_tellLaw_ok 61 1 (pc' := 117) (pl' := [some (.ref 0), some (.int (nI k)), some (.int (nI F)), some (.int (nI ((4 - (n + 1)) + 1)))]) (st' := [(.ref 0)]) (W1 := (mW v5 a4 b)) (bs := []) rfl rfl rfl ?_
                          refine XG.callV0 eX9_tellLaw_117 kl_X9_311 (con_term (d - 1) v5 a4 b K ((((((ha.tr (FrW.set 41 (F + bs.length) _ (by decide) (by omega) (by omega))).tr (FrW.set 42 (F + bs.length) _ (by decide) (by omega) (by omega))).tr (FrW.x hf2 (by omega))).tr (FrW.set 43 (F + bs.length) _ (by decide) (by omega) (by omega))).tr (FrW.x hf4 (by omega))).tok hT) t5 w hP5 f5_12 ((q + x.2.length) + y.2.length) sd (F + bs.length) hsd f5_46 (by omega) (by omega) f5_40 (by omega) (by omega)) (px_fitS (by omega)) rfl rfl rfl (Nat.le_of_ble_eq_true rfl) (fun r9 W9 hp9 hl9 => ?_)
                          obtain ⟨v6, a6, rfl, hc6, hf6, g40_6, rfl, hu6⟩ := hp9
                          rcases hu6 with ⟨e, he, hP6⟩ | ⟨z, he, hP6, e12_6, e46_6, sg6, eq6⟩
                          · rw [he] at hR
                            exact hX120 e _ _ _ _ hR.symm hP6 g40_6 (by omega) (by omega) (chgL (chgL (chgL (chgL (chgL (chgL hv hc1 (fun _ _ => rfl)) hc2 (fun _ _ => rfl)) hc3 (fun _ _ => rfl)) hc4 (fun _ _ => rfl)) hc5 (fun _ _ => rfl)) hc6 (fun _ _ => rfl)) (((((((ha.tr (FrW.set 41 (F + bs.length) _ (by decide) (by omega) (by omega))).tr (FrW.set 42 (F + bs.length) _ (by decide) (by omega) (by omega))).tr (FrW.x hf2 (by omega))).tr (FrW.set 43 (F + bs.length) _ (by decide) (by omega) (by omega))).tr (FrW.x hf4 (by omega))).tr ((FrW.set 44 (F + bs.length) _ (by decide) (by omega) (by omega)).tr (FrW.set 45 (F + bs.length) _ (by decide) (by omega) (by omega)))).tr (FrW.x hf6 (by omega)))
                          · rw [he] at hR
                            simp only [bd_inr] at hR
                            have hE6 := exS_lt (by omega) (by omega) he
                            refine XG.blk tX9_tellLaw_ok 63 2 (pc' := 123) (pl' := [some (.ref 0), some (.int (nI k)), some (.int (nI F)), some (.int (nI ((4 - (n + 1)) + 1)))]) (st' := [(.int (nI 32)), (.ref 0)]) (W1 := (mW v6 a6 b)) (bs := []) rfl rfl rfl ?_
                            refine XG.callV0 eX9_tellLaw_123 kl_X9_277 (con_must (d - 1) v6 a6 b K ((((((((ha.tr (FrW.set 41 (F + bs.length) _ (by decide) (by omega) (by omega))).tr (FrW.set 42 (F + bs.length) _ (by decide) (by omega) (by omega))).tr (FrW.x hf2 (by omega))).tr (FrW.set 43 (F + bs.length) _ (by decide) (by omega) (by omega))).tr (FrW.x hf4 (by omega))).tr ((FrW.set 44 (F + bs.length) _ (by decide) (by omega) (by omega)).tr (FrW.set 45 (F + bs.length) _ (by decide) (by omega) (by omega)))).tr (FrW.x hf6 (by omega))).tok hT) _ hP6 32 (by omega) (by omega) (by omega)) (px_fitS (by omega)) rfl rfl rfl (Nat.le_of_ble_eq_true rfl) (fun r9 W9 hp9 hl9 => ?_)
                            obtain ⟨v7, rfl, hc7, hP7, rfl⟩ := hp9
                            have g40_7 : v7 40 = nI ((F + bs.length) + 1) := (hc7 40 (by decide)).trans g40_6
                            cases hm7 : mstN K 32 z.1 with
                            | inl e =>
                              rw [hm7] at hR
                              have hP7 : PVr K (.inl e) v7 := by
                                have h9 : PVr K (mstS K 32 (z.1, w)) v7 := hP7
                                rw [mstS_N, hm7] at h9
                                exact h9
                              refine XG.goto eX9_tellLaw_126 (tgt := 12) (by decide) ?_
                              exact hX12 e _ _ _ _ hR.symm hP7 g40_7 (by omega) (by omega) (chgL (chgL (chgL (chgL (chgL (chgL (chgL hv hc1 (fun _ _ => rfl)) hc2 (fun _ _ => rfl)) hc3 (fun _ _ => rfl)) hc4 (fun _ _ => rfl)) hc5 (fun _ _ => rfl)) hc6 (fun _ _ => rfl)) hc7 (fun _ _ => rfl)) (((((((ha.tr (FrW.set 41 (F + bs.length) _ (by decide) (by omega) (by omega))).tr (FrW.set 42 (F + bs.length) _ (by decide) (by omega) (by omega))).tr (FrW.x hf2 (by omega))).tr (FrW.set 43 (F + bs.length) _ (by decide) (by omega) (by omega))).tr (FrW.x hf4 (by omega))).tr ((FrW.set 44 (F + bs.length) _ (by decide) (by omega) (by omega)).tr (FrW.set 45 (F + bs.length) _ (by decide) (by omega) (by omega)))).tr (FrW.x hf6 (by omega)))
                            | inr t7 =>
                              rw [hm7] at hR
                              simp only [bd_inr] at hR
                              have hP7 : PVr K (.inr (t7, w)) v7 := by
                                have h9 : PVr K (mstS K 32 (z.1, w)) v7 := hP7
                                rw [mstS_N, hm7] at h9
                                exact h9
                              have hp7 := mstN_inr hm7
                              have ht7 : t7 ≤ 400 := hP7.1
                              have f7_40 : v7 40 = nI ((F + bs.length) + 1) := (hc7 40 (by decide)).trans g40_6
                              have f7_12 : v7 12 = nI 0 := (hc7 12 (by decide)).trans e12_6
                              have f7_46 : v7 46 = nI (((q + x.2.length) + y.2.length) + z.2.length) := (hc7 46 (by decide)).trans e46_6
                              refine XG.goto eX9_tellLaw_126 (tgt := 12) (by decide) ?_
                              have hfin := trivial
                              refine XG.weak (pl' := [some (.ref 0), some (.int (nI k)), some (.int (nI F)), some (.int (nI (4 - n)))]) ⟨rfl, rfl, rfl, by rw [show 4 - n = 4 - (n + 1) + 1 by omega], trivial⟩ ?_
                              refine ih (by omega) t7 (bs ++ [(some (x.2, y.2), z.2)]) _ _ _ hR hP7 f7_12 (by rw [f7_40]; congr 1; simp; omega) f7_46 (by omega) (by omega) (by simp; omega) (fun i br hi => ?_) (chgL (chgL (chgL (chgL (chgL (chgL (chgL hv hc1 (fun _ _ => rfl)) hc2 (fun _ _ => rfl)) hc3 (fun _ _ => rfl)) hc4 (fun _ _ => rfl)) hc5 (fun _ _ => rfl)) hc6 (fun _ _ => rfl)) hc7 (fun _ _ => rfl)) (((((((ha.tr (FrW.set 41 (F + bs.length) _ (by decide) (by omega) (by omega))).tr (FrW.set 42 (F + bs.length) _ (by decide) (by omega) (by omega))).tr (FrW.x hf2 (by omega))).tr (FrW.set 43 (F + bs.length) _ (by decide) (by omega) (by omega))).tr (FrW.x hf4 (by omega))).tr ((FrW.set 44 (F + bs.length) _ (by decide) (by omega) (by omega)).tr (FrW.set 45 (F + bs.length) _ (by decide) (by omega) (by omega)))).tr (FrW.x hf6 (by omega)))
                              have hW6 : FrW (F + bs.length) q sd a a6 := ((FrW.set 41 (F + bs.length) _ (by decide) (by omega) (by omega)).tr ((FrW.set 42 (F + bs.length) _ (by decide) (by omega) (by omega)).tr ((FrW.x hf2 (by omega)).tr ((FrW.set 43 (F + bs.length) _ (by decide) (by omega) (by omega)).tr ((FrW.x hf4 (by omega)).tr ((FrW.set 44 (F + bs.length) _ (by decide) (by omega) (by omega)).tr ((FrW.set 45 (F + bs.length) _ (by decide) (by omega) (by omega)).tr (FrW.x hf6 (by omega)))))))))
                              by_cases hil : i < bs.length
                              · rw [List.getElem?_append_left hil] at hi
                                exact brR_W (hbs i br hi) hW6 (by omega) (by omega)
                              · rw [List.getElem?_append_right (by omega)] at hi
                                have h9 := (List.getElem?_eq_some_iff.mp hi).1
                                simp at h9
                                obtain rfl : i = bs.length := by omega
                                rw [Nat.sub_self] at hi
                                cases hi
                                have hf6x : ∀ k, k ∉ [47, 48, 49] → a6 k = _ := hf6.1
                                refine ⟨q, by omega, Nat.le_refl _, ?_, ?_, ?_, ?_, ?_, ?_, ?_, sg6⟩
                                · rw [hf6.1 41 (by decide)]; show a4 41 _ = _; rw [hf4.1 41 (by decide)]; show a2 41 _ = _; rw [hf2.1 41 (by decide)]; exact pk_us
                                · rw [hf6.1 42 (by decide)]; show a4 42 _ = _; rw [hf4.1 42 (by decide)]; show a2 42 _ = _; rw [hf2.1 42 (by decide)]; exact pk_us
                                · rw [hf6.1 43 (by decide)]; show a4 43 _ = _; rw [hf4.1 43 (by decide)]; exact pk_us
                                · rw [hf6.1 44 (by decide)]; exact pk_us
                                · rw [hf6.1 45 (by decide)]; show upd _ _ (v6 46) _ = _; rw [pk_us]; exact e46_6
                                · exact segR_W (F := F + bs.length) (Q := q + x.2.length) sg2 (((FrW.set 43 (F + bs.length) _ (by decide) (by omega) (by omega)).tr ((FrW.x hf4 (by omega)).tr ((FrW.set 44 (F + bs.length) _ (by decide) (by omega) (by omega)).tr ((FrW.set 45 (F + bs.length) _ (by decide) (by omega) (by omega)).tr (FrW.x hf6 (by omega))))))) (Nat.le_refl _)
                                · exact segR_W (F := F + bs.length) (Q := q + x.2.length + y.2.length) sg4 (((FrW.set 44 (F + bs.length) _ (by decide) (by omega) (by omega)).tr ((FrW.set 45 (F + bs.length) _ (by decide) (by omega) (by omega)).tr (FrW.x hf6 (by omega))))) (Nat.le_refl _)
            · exfalso
              first | exact h16 hx13 | exact hx13 h16 | exact h42 hx14 | exact h103 hy13_3
          · exfalso
            have h30 := Decidable.not_not.mp h30
            have g30 : (4 - (n + 1)) = 4 := (nI_eq (a := (4 - (n + 1))) (b := 4) (by omega) (by omega)).mp h30
            omega
    · have eL : lawS9 K (n + 1) t bs = bd (exS K 6 t) (fun x => .inr (x.1, bs ++ [(none, x.2)])) := if_neg hk30
      rw [eL] at hR
      refine XG.blk tX9_tellLaw_ok 8 2 (pc' := 16) (pl' := [some (.ref 0), some (.int (nI k)), some (.int (nI F)), some (.int (nI (4 - (n + 1))))]) (st' := [(.int (v 13))]) (W1 := (mW v a b)) (bs := []) rfl rfl rfl ?_
      refine XG.br eX9_tellLaw_16 (P := ¬ (v 13) = 0) (r := []) rfl (tgt := 129) (by decide) (fun h16 => ?_) (fun h16 => ?_)
      · exfalso
        first | exact h16 hx13 | exact hx13 h16 | exact hx142 h152 | exact h152 hx142
      · skip
        have h16 := Decidable.not_not.mp h16
        refine XG.blk tX9_tellLaw_ok 11 2 (pc' := 22) (pl' := [some (.ref 0), some (.int (nI k)), some (.int (nI F)), some (.int (nI (4 - (n + 1))))]) (st' := [(.int (nI 30)), (.ref 0)]) (W1 := (mW v a b)) (bs := []) rfl rfl rfl ?_
        refine XG.callV0 eX9_tellLaw_22 kl_X9_233 (con_isF (d - 1) v a b K hT9 _ h 30 hk30 (by decide)) (px_fitS (by omega)) rfl rfl rfl (Nat.le_of_ble_eq_true rfl) (fun r9 W9 hp9 hl9 => ?_)
        obtain ⟨rfl, rfl⟩ := hp9
        refine XG.br eX9_tellLaw_25 (P := (nI 0) = 0) (r := []) rfl (tgt := 129) (by decide) (fun h25 => ?_) (fun h25 => ?_)
        · skip
          have g25 : 0 = 0 := (nI_eq (a := 0) (b := 0) (by omega) (by omega)).mp h25
          have q1 : (v 40) = (nI (F + bs.length)) := h40
          have q2 : (nI (F + bs.length)).toNatClampNeg = (F + bs.length) := nI_clamp (by omega)
          have q3 : (vp_nar .boolean (nI 0)) = (nI 0) := by decide
          refine XG.blk tX9_tellLaw_ok 67 7 (pc' := 140) (pl' := [some (.ref 0), some (.int (nI k)), some (.int (nI F)), some (.int (nI (4 - (n + 1))))]) (st' := [(.ref 0)]) (W1 := (mW v (va_up a 41 (upd (a 41) (v 40).toNatClampNeg (vp_nar .boolean (nI 0)))) b)) (bs := [px_vb (v 40) 260]) rfl rfl (by (try simp only [q1, q2, q3]); exact (px_all (px_vbN (by omega) (by decide)) rfl)) ?_
          simp only [q1, q2, q3]
          refine XG.callV0 eX9_tellLaw_140 kl_X9_311 (con_term (d - 1) v (va_up a 41 (upd (a 41) (F + bs.length) (nI 0))) b K ((ha.tr (FrW.set 41 (F + bs.length) _ (by decide) (by omega) (by omega))).tok hT) t w h h12 q sd (F + bs.length) hsd h46 (by omega) (by omega) h40 (by omega) (by omega)) (px_fitS (by omega)) rfl rfl rfl (Nat.le_of_ble_eq_true rfl) (fun r9 W9 hp9 hl9 => ?_)
          obtain ⟨v1, a1, rfl, hc1, hf1, g40_1, rfl, hu1⟩ := hp9
          rcases hu1 with ⟨e, he, hP1⟩ | ⟨x, he, hP1, e12_1, e46_1, sg1, eq1⟩
          · rw [he] at hR
            refine XG.blk tX9_tellLaw_ok 75 2 (pc' := 145) (pl' := [some (.ref 0), some (.int (nI k)), some (.int (nI F)), some (.int (nI (4 - (n + 1))))]) (st' := [(.int (nI 4)), (.ref 0)]) (W1 := (mW v1 a1 b)) (bs := []) rfl rfl rfl ?_
            refine XG.callV0 eX9_tellLaw_145 kl_X9_277 (con_must (d - 1) v1 a1 b K ((((ha.tr (FrW.set 41 (F + bs.length) _ (by decide) (by omega) (by omega))).tr ((FrW.set 44 (F + bs.length) _ (by decide) (by omega) (by omega)).tr (FrW.set 45 (F + bs.length) _ (by decide) (by omega) (by omega)))).tr (FrW.x hf1 (by omega))).tok hT) (.inl e) hP1 4 (by omega) (by omega) (by omega)) (px_fitS (by omega)) rfl rfl rfl (Nat.le_of_ble_eq_true rfl) (fun r9 W9 hp9 hl9 => ?_)
            obtain ⟨v21, rfl, hc21, hP21, rfl⟩ := hp9
            have h40_21 : v21 40 = nI ((F + bs.length) + 1) := (hc21 40 (by decide)).trans g40_1
            have hx142 : ¬ v21 13 ≤ 0 := by rw [hP21.2.1]; exact Int32.not_le.mpr (n1_pos (by have := hP21.1; omega) (by have := hP21.1; omega))
            refine XG.blk tX9_tellLaw_ok 78 2 (pc' := 152) (pl' := [some (.ref 0), some (.int (nI k)), some (.int (nI F)), some (.int (nI (4 - (n + 1))))]) (st' := [(.int (v21 13))]) (W1 := (mW v21 a1 b)) (bs := []) rfl rfl rfl ?_
            refine XG.br eX9_tellLaw_152 (P := (v21 13) ≤ 0) (r := []) rfl (tgt := 156) (by decide) (fun h152 => ?_) (fun h152 => ?_)
            · exfalso
              first | exact h16 hx13 | exact hx13 h16 | exact hx142 h152 | exact h152 hx142
            · skip
              refine XS.vret eX9_tellLaw_155 rfl ?_
              rw [← hR]
              exact ⟨_, _, b, rfl, FrW.R (((ha.tr (FrW.set 41 (F + bs.length) _ (by decide) (by omega) (by omega))).tr ((FrW.set 44 (F + bs.length) _ (by decide) (by omega) (by omega)).tr (FrW.set 45 (F + bs.length) _ (by decide) (by omega) (by omega)))).tr (FrW.x hf1 (by omega))) hF hQ (chgL (chgL hv hc1 (fun _ _ => rfl)) hc21 (fun _ _ => rfl)), hP21, rfl⟩
          · rw [he] at hR
            simp only [bd_inr] at hR
            have hE1 := exS_lt (by omega) (by omega) he
            refine XG.blk tX9_tellLaw_ok 75 2 (pc' := 145) (pl' := [some (.ref 0), some (.int (nI k)), some (.int (nI F)), some (.int (nI (4 - (n + 1))))]) (st' := [(.int (nI 4)), (.ref 0)]) (W1 := (mW v1 a1 b)) (bs := []) rfl rfl rfl ?_
            refine XG.callV0 eX9_tellLaw_145 kl_X9_277 (con_must (d - 1) v1 a1 b K ((((ha.tr (FrW.set 41 (F + bs.length) _ (by decide) (by omega) (by omega))).tr ((FrW.set 44 (F + bs.length) _ (by decide) (by omega) (by omega)).tr (FrW.set 45 (F + bs.length) _ (by decide) (by omega) (by omega)))).tr (FrW.x hf1 (by omega))).tok hT) _ hP1 4 (by omega) (by omega) (by omega)) (px_fitS (by omega)) rfl rfl rfl (Nat.le_of_ble_eq_true rfl) (fun r9 W9 hp9 hl9 => ?_)
            obtain ⟨v2, rfl, hc2, hP2, rfl⟩ := hp9
            have g40_2 : v2 40 = nI ((F + bs.length) + 1) := (hc2 40 (by decide)).trans g40_1
            cases hm2 : mstN K 4 x.1 with
            | inl e =>
              rw [hm2] at hR
              have hP2 : PVr K (.inl e) v2 := by
                have h9 : PVr K (mstS K 4 (x.1, w)) v2 := hP2
                rw [mstS_N, hm2] at h9
                exact h9
              have hx142 : ¬ v2 13 ≤ 0 := by rw [hP2.2.1]; exact Int32.not_le.mpr (n1_pos (by have := hP2.1; omega) (by have := hP2.1; omega))
              refine XG.blk tX9_tellLaw_ok 78 2 (pc' := 152) (pl' := [some (.ref 0), some (.int (nI k)), some (.int (nI F)), some (.int (nI (4 - (n + 1))))]) (st' := [(.int (v2 13))]) (W1 := (mW v2 a1 b)) (bs := []) rfl rfl rfl ?_
              refine XG.br eX9_tellLaw_152 (P := (v2 13) ≤ 0) (r := []) rfl (tgt := 156) (by decide) (fun h152 => ?_) (fun h152 => ?_)
              · exfalso
                first | exact h16 hx13 | exact hx13 h16 | exact hx142 h152 | exact h152 hx142
              · skip
                refine XS.vret eX9_tellLaw_155 rfl ?_
                rw [← hR]
                exact ⟨_, _, b, rfl, FrW.R (((ha.tr (FrW.set 41 (F + bs.length) _ (by decide) (by omega) (by omega))).tr ((FrW.set 44 (F + bs.length) _ (by decide) (by omega) (by omega)).tr (FrW.set 45 (F + bs.length) _ (by decide) (by omega) (by omega)))).tr (FrW.x hf1 (by omega))) hF hQ (chgL (chgL hv hc1 (fun _ _ => rfl)) hc2 (fun _ _ => rfl)), hP2, rfl⟩
            | inr t4 =>
              rw [hm2] at hR
              simp only [bd_inr] at hR
              have hP2 : PVr K (.inr (t4, w)) v2 := by
                have h9 : PVr K (mstS K 4 (x.1, w)) v2 := hP2
                rw [mstS_N, hm2] at h9
                exact h9
              have hp2 := mstN_inr hm2
              have ht2 : t4 ≤ 400 := hP2.1
              have f2_40 : v2 40 = nI ((F + bs.length) + 1) := (hc2 40 (by decide)).trans g40_1
              have f2_12 : v2 12 = nI 0 := (hc2 12 (by decide)).trans e12_1
              have f2_46 : v2 46 = nI (q + x.2.length) := (hc2 46 (by decide)).trans e46_1
              have hx142 : v2 13 ≤ 0 := by rw [hP2.2.2.1]; decide
              refine XG.blk tX9_tellLaw_ok 78 2 (pc' := 152) (pl' := [some (.ref 0), some (.int (nI k)), some (.int (nI F)), some (.int (nI (4 - (n + 1))))]) (st' := [(.int (v2 13))]) (W1 := (mW v2 a1 b)) (bs := []) rfl rfl rfl ?_
              refine XG.br eX9_tellLaw_152 (P := (v2 13) ≤ 0) (r := []) rfl (tgt := 156) (by decide) (fun h152 => ?_) (fun h152 => ?_)
              · skip
                have q4 : (v2 19) = (nI sd) := ((chgL (chgL hv hc1 (fun _ _ => rfl)) hc2 (fun _ _ => rfl)) 19 (by decide)).trans h19
                have q5 : ((nI 3) * (nI sd)) = (nI (3 * sd)) := px_emul rfl rfl
                have q6 : ((nI (3 * sd)) + (nI k)) = (nI ((3 * sd) + k)) := px_eadd rfl rfl
                have q7 : (nI ((3 * sd) + k)).toNatClampNeg = ((3 * sd) + k) := nI_clamp (by omega)
                have q8 : (v2 40) = (nI ((F + bs.length) + 1)) := f2_40
                refine XG.blk tX9_tellLaw_ok 82 21 (pc' := 187) (pl' := [some (.ref 0), some (.int (nI k)), some (.int (nI F)), some (.int (nI (4 - (n + 1))))]) (st' := []) (W1 := (mW v2 (va_up (va_up a1 38 (upd (a1 38) (((nI 3) * (v2 19)) + (nI k)).toNatClampNeg (nI F))) 39 (upd (a1 39) (((nI 3) * (v2 19)) + (nI k)).toNatClampNeg (v2 40))) b)) (bs := [px_vb (((nI 3) * (v2 19)) + (nI k)) 6, px_vb (((nI 3) * (v2 19)) + (nI k)) 6]) rfl rfl (by (try simp only [q4, q5, q6, q7, q8]); exact (px_all (px_vbN (by omega) (by decide)) (px_all (px_vbN (by omega) (by decide)) rfl))) ?_
                simp only [q4, q5, q6, q7, q8]
                refine XS.vret eX9_tellLaw_187 rfl ?_
                have hW1 : FrW (F + bs.length) q sd a a1 := (FrW.set 41 (F + bs.length) _ (by decide) (by omega) (by omega)).tr (((FrW.set 44 (F + bs.length) _ (by decide) (by omega) (by omega)).tr (FrW.set 45 (F + bs.length) _ (by decide) (by omega) (by omega))).tr (FrW.x hf1 (by omega)))
                have hRR := hRD t4 (F + bs.length + 1) (q + x.2.length) (bs ++ [(none, x.2)]) v2 a1 (chgL (chgL hv hc1 (fun _ _ => rfl)) hc2 (fun _ _ => rfl)) ((((ha.tr (FrW.set 41 (F + bs.length) _ (by decide) (by omega) (by omega))).tr ((FrW.set 44 (F + bs.length) _ (by decide) (by omega) (by omega)).tr (FrW.set 45 (F + bs.length) _ (by decide) (by omega) (by omega)))).tr (FrW.x hf1 (by omega)))) f2_12 f2_40 f2_46 (by omega) (by simp; omega) (by simp) (by omega) (by omega) (by omega) (fun i br hi => by
                  by_cases hil : i < bs.length
                  · rw [List.getElem?_append_left hil] at hi
                    exact brR_W (hbs i br hi) hW1 (by omega) (by omega)
                  · rw [List.getElem?_append_right (by omega)] at hi
                    have h9 := (List.getElem?_eq_some_iff.mp hi).1
                    simp at h9
                    obtain rfl : i = bs.length := by omega
                    rw [Nat.sub_self] at hi
                    cases hi
                    refine ⟨q, by omega, by simp, ?_, ?_, ?_, sg1⟩
                    · rw [hf1.1 41 (by decide)]; exact pk_us
                    · rw [hf1.1 44 (by decide)]; exact pk_us
                    · rw [hf1.1 45 (by decide)]; show upd _ _ (v1 46) _ = _; rw [pk_us]; exact e46_1)
                rw [← hR]
                refine ⟨_, _, b, rfl, ?_, ⟨hP2, hRR⟩, rfl⟩
                refine (FrW.R (b := b) (((ha.tr (FrW.set 41 (F + bs.length) _ (by decide) (by omega) (by omega))).tr ((FrW.set 44 (F + bs.length) _ (by decide) (by omega) (by omega)).tr (FrW.set 45 (F + bs.length) _ (by decide) (by omega) (by omega)))).tr (FrW.x hf1 (by omega))) hF hQ (chgL (chgL hv hc1 (fun _ _ => rfl)) hc2 (fun _ _ => rfl))).tr ((FrR.set 38 (3 * sd + k) _ (by rw [show strd 38 = 3 from by decide]; omega) (by rw [show strd 38 = 3 from by decide]; omega)).tr (FrR.set 39 (3 * sd + k) _ (by rw [show strd 39 = 3 from by decide]; omega) (by rw [show strd 39 = 3 from by decide]; omega)))
              · exfalso
                first | exact h16 hx13 | exact hx13 h16 | exact hx142 h152 | exact h152 hx142
        · exfalso
          have g25 : ¬ 0 = 0 := (fun z => h25 ((nI_eq (a := 0) (b := 0) (by omega) (by omega)).mpr z))
          omega
