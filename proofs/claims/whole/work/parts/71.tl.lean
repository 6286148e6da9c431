/-! the reference: pairs -/
theorem mstS_ok {K : TKS} {k : Nat} {s : PT} (h : K.1 s.1 = k) (h2 : s.1 ≠ 400) : mstS K k s = .inr (s.1 + 1, s.2) := by
  unfold mstS mstN advN; rw [if_pos h, if_neg h2]; rfl
theorem bitT : ∀ m : Fin 64, ∀ j : Fin 6, ((nI m.val >>> (nI j.val &&& 31)) &&& nI 1 = nI 1) ↔ m.val.testBit j.val = true := by decide +kernel
theorem orT : ∀ m : Fin 64, ∀ j : Fin 6, nI m.val ||| (nI 1 <<< (nI j.val &&& 31)) = nI (m.val ||| 2 ^ j.val) ∧ m.val ||| 2 ^ j.val < 64 := by decide +kernel
theorem bitT' {m j : Nat} (hm : m < 64) (hj : j < 6) : ((nI m >>> (nI j &&& 31)) &&& nI 1 = nI 1) ↔ m.testBit j = true := bitT ⟨m, hm⟩ ⟨j, hj⟩
theorem orT' {m j : Nat} (hm : m < 64) (hj : j < 6) : nI m ||| (nI 1 <<< (nI j &&& 31)) = nI (m ||| 2 ^ j) ∧ m ||| 2 ^ j < 64 := orT ⟨m, hm⟩ ⟨j, hj⟩
theorem hasPr_app (pr : List (Option (Nat × Nat))) (z : Option (Nat × Nat)) (x y : Nat) : hasPr (pr ++ [z]) x y = (hasPr pr x y || (decide (z = some (x, y)) || decide (z = some (y, x)))) := by
  unfold hasPr; rw [List.any_append]; simp
theorem PrR_none {pr : List (Option (Nat × Nat))} {dr : Nat → Int32} {sd : Nat} (h : PrR pr dr sd) : PrR (pr ++ [none]) dr sd := by
  obtain ⟨m, hm⟩ := h
  refine ⟨m, fun x hx => ⟨(hm x hx).1, (hm x hx).2.1, fun y hy => ?_⟩⟩
  rw [(hm x hx).2.2 y hy, hasPr_app]; simp
theorem PrR_some {pr : List (Option (Nat × Nat))} {dr : Nat → Int32} {sd i j : Nat} (h : PrR pr dr sd) (hi : i < 6) (hj : j < 6) : PrR (pr ++ [some (i, j)]) (upd (upd dr (6 * sd + i) (dr (6 * sd + i) ||| (nI 1 <<< (nI j &&& 31)))) (6 * sd + j) (upd dr (6 * sd + i) (dr (6 * sd + i) ||| (nI 1 <<< (nI j &&& 31))) (6 * sd + j) ||| (nI 1 <<< (nI i &&& 31)))) sd := by
  obtain ⟨m, hm⟩ := h
  have step : ∀ (m : Nat → Nat) (dr : Nat → Int32) (i j : Nat), i < 6 → j < 6 → (∀ x, x < 6 → dr (6 * sd + x) = nI (m x) ∧ m x < 64) → ∀ x, x < 6 → upd dr (6 * sd + i) (dr (6 * sd + i) ||| (nI 1 <<< (nI j &&& 31))) (6 * sd + x) = nI (va_up m i (m i ||| 2 ^ j) x) ∧ va_up m i (m i ||| 2 ^ j) x < 64 := by
    intro m dr i j hi hj hm x hx
    have h1 := orT' (hm i hi).2 hj
    unfold va_up
    by_cases e : x = i
    · subst e; rw [pk_us, if_pos rfl, (hm x hx).1]; exact h1
    · rw [pk_un (by omega), if_neg e]; exact hm x hx
  have h1 := step m dr i j hi hj (fun x hx => ⟨(hm x hx).1, (hm x hx).2.1⟩)
  have h2 := step _ _ j i hj hi h1
  refine ⟨_, fun x hx => ⟨(h2 x hx).1, (h2 x hx).2, fun y hy => ?_⟩⟩
  rw [hasPr_app, ← (hm x hx).2.2 y hy]
  have hb : ∀ (a c : Nat), ((a ||| 2 ^ c).testBit y) = (a.testBit y || decide (c = y)) := fun a c => by rw [Nat.testBit_or, Nat.testBit_two_pow]
  unfold va_up
  by_cases e1 : x = j
  · subst e1
    rw [if_pos rfl, hb]
    by_cases e2 : x = i
    · subst e2; rw [if_pos rfl, hb]
      by_cases e3 : x = y
      · subst e3; simp
      · simp [e3, Ne.symm e3]
    · rw [if_neg e2]
      by_cases e3 : i = y
      · subst e3; simp
      · simp [e3, Ne.symm e3, e2, Ne.symm e2]
  · rw [if_neg e1]
    by_cases e2 : x = i
    · subst e2; rw [if_pos rfl, hb]
      by_cases e3 : j = y
      · subst e3; simp
      · simp [e3, Ne.symm e3, e1, Ne.symm e1]
    · rw [if_neg e2]; simp [e1, Ne.symm e1, e2, Ne.symm e2]
theorem FrR.set2 {sd : Nat} {v : Nat → Int32} {a : Nat → Nat → Int32} {b : Nat → Nat → Int64} (k j j' : Nat) (x x' : Int32) (h1 : strd k * sd ≤ j ∧ j < strd k * sd + strd k) (h2 : strd k * sd ≤ j' ∧ j' < strd k * sd + strd k) : FrR sd v v a (va_up a k (upd (upd (a k) j x) j' x')) b b := by
  refine ⟨chg.rf, fun k' _ _ i hi => ?_, chg.rf⟩
  unfold va_up
  by_cases h : k' = k
  · subst h
    rw [if_pos rfl, pk_un (fun e => hi (by rw [e]; exact h2)), pk_un (fun e => hi (by rw [e]; exact h1))]
  · rw [if_neg h]
theorem fnd_mem {nl : NmL} {x : List Nat} {j : Nat} (h : fndNm nl x = some j) : ∃ e, e ∈ nl ∧ e.2 = some j := by
  induction nl with
  | nil => cases h
  | cons e r ih =>
    unfold fndNm at h
    cases h2 : e.2 with
    | none => rw [h2] at h; obtain ⟨e', h3, h4⟩ := ih h; exact ⟨e', List.mem_cons_of_mem _ h3, h4⟩
    | some i =>
      rw [h2] at h
      have h : (if e.1 = x then some i else fndNm r x) = some j := h
      by_cases h5 : e.1 = x
      · rw [if_pos h5] at h; cases h; exact ⟨e, List.mem_cons_self, h2⟩
      · rw [if_neg h5] at h; obtain ⟨e', h3, h4⟩ := ih h; exact ⟨e', List.mem_cons_of_mem _ h3, h4⟩
theorem RD.pair {S : SD} {sd t t' : Nat} {v v' : Nat → Int32} {a a' : Nat → Nat → Int32} {b : Nat → Nat → Int64} {z : Option (Nat × Nat)} (h : RD S sd t v a b) (hn : S.1 30 < 6) (ht : t ≤ t') (hv : chg [11, 13, 14, 15, 16] v v') (ha : ∀ k, k ≠ 29 → k ≠ 30 → a' k = a k) (h30 : a' 30 sd = nI (S.1 30 + 1)) (h29 : PrR (S.2.2.2.1 ++ [z]) (a' 29) sd) : RD (va_up S.1 30 (S.1 30 + 1), S.2.1, S.2.2.1, S.2.2.2.1 ++ [z], S.2.2.2.2) sd t' v' a' b := by
  obtain ⟨h1, h2, h3, h4, h5, h6, h7, h8⟩ := h
  refine ⟨?_, ⟨h2.1, h2.2.1, by show S.1 30 + 1 ≤ 6; omega⟩, ?_, ?_, ⟨⟨(hv 20 (by decide)).trans h5.1.1, h5.1.2.1, ?_⟩, h5.2⟩, h29, CdR_chg ht ⟨hv 40 (by decide), hv 46 (by decide)⟩ (fun k hk => ha k (by revert k; decide) (by revert k; decide)) h7, (hv 12 (by decide)).trans h8⟩
  · intro k hk
    by_cases e : k = 30
    · subst e; exact h30
    · show a' k sd = nI (va_up S.1 30 _ k)
      rw [show va_up S.1 30 (S.1 30 + 1) k = S.1 k from if_neg e, ← h1 k hk, ha k (by rintro rfl; revert hk; decide) e]
  · intro i hi k hk
    rw [ha k (by rintro rfl; revert hk; decide) (by rintro rfl; revert hk; decide)]
    exact h3 i hi k hk
  · intro i hi k hk
    rw [ha k (by rintro rfl; revert hk; decide) (by rintro rfl; revert hk; decide)]
    exact h4 i hi k hk
  · intro i e he
    rw [ha 22 (by decide) (by decide)]
    exact h5.1.2.2 i e he
set_option maxHeartbeats 400000 in
theorem con_tellPair (d : Nat) (v : Nat → Int32) (a : Nat → Nat → Int32) (b : Nat → Nat → Int64) (K : TKS) (hT : Tok K a b) (sd : Nat) (hsd : v 19 = nI sd) (hsd2 : sd < 2) (S : SD) (s : PT) (h : PVr K (.inr s) v) (hR : RD S sd s.1 v a b) (hn : S.1 30 < 6) (hd : 4 ≤ d) : Con mX9_tellPair d [.ref 0] (mW v a b) (fun q W' => ∃ v' a' b', W' = mW v' a' b' ∧ FrR sd v v' a a' b b' ∧ RQ K sd (paT K s S) v' a' b' ∧ q = none) := by
  have h30 := hR.1 30 (by decide)
  have hN := hR.2.2.2.2.1.1
  have hB := hR.2.1
  refine Con.of (by decide) (Nat.le_of_ble_eq_true rfl) ?_
  refine XG.blk tX9_tellPair_ok 0 1 (pc' := 1) (pl' := [some (.ref 0), none, none, none, none]) (st' := [(.ref 0)]) (W1 := (mW v a b)) (bs := []) rfl rfl rfl ?_
  refine XG.callV0 eX9_tellPair_1 kl_X9_305 (con_knownSleeper (d - 1) v a b K hT (.inr s) h S.2.2.1 ⟨hN.1, hN.2.1, hN.2.2⟩ (by omega)) (px_fitS (by omega)) rfl rfl rfl (Nat.le_of_ble_eq_true rfl) (fun r9 W9 hp9 hl9 => ?_)
  obtain ⟨v1, x1, rfl, hc1, hP1, rfl, hx1, hy1⟩ := hp9
  obtain ⟨t1, ht1, h11b⟩ := hP1.t
  have q1 : (v1 11) = (nI t1) := h11b
  refine XG.blk tX9_tellPair_ok 2 5 (pc' := 11) (pl' := [some (.ref 0), some (.int x1), some (.int (v1 11)), none, none]) (st' := [(.ref 0)]) (W1 := (mW v1 a b)) (bs := []) rfl rfl rfl ?_
  simp only [q1]
  refine XG.callV0 eX9_tellPair_11 kl_X9_305 (con_knownSleeper (d - 1) v1 a b K hT (bd (.inr s) (knwS K S.2.2.1)) hP1 S.2.2.1 ⟨(hc1 20 (by decide)).trans hN.1, hN.2.1, hN.2.2⟩ (by omega)) (px_fitS (by omega)) rfl rfl rfl (Nat.le_of_ble_eq_true rfl) (fun r9 W9 hp9 hl9 => ?_)
  obtain ⟨v2, x2, rfl, hc2, hP2, rfl, hx2, hy2⟩ := hp9
  refine XG.blk tX9_tellPair_ok 8 1 (pc' := 15) (pl' := [some (.ref 0), some (.int x1), some (.int (nI t1)), some (.int x2), none]) (st' := []) (W1 := (mW v2 a b)) (bs := []) rfl rfl rfl ?_
  cases hr2 : bd (bd (.inr s) (knwS K S.2.2.1)) (knwS K S.2.2.1) with
  | inl e =>
    rw [hr2] at hP2
    have hx13 : ¬ v2 13 = 0 := by rw [hP2.2.1]; exact nI_nz (by have := hP2.1; omega) (by have := hP2.1; omega)
    refine XG.blk tX9_tellPair_ok 9 2 (pc' := 19) (pl' := [some (.ref 0), some (.int x1), some (.int (nI t1)), some (.int x2), none]) (st' := [(.int (v2 13))]) (W1 := (mW v2 a b)) (bs := []) rfl rfl rfl ?_
    refine XG.br eX9_tellPair_19 (P := ¬ (v2 13) = 0) (r := []) rfl (tgt := 34) (by decide) (fun h19 => ?_) (fun h19 => ?_)
    · skip
      refine XG.blk tX9_tellPair_ok 18 3 (pc' := 39) (pl' := [some (.ref 0), some (.int x1), some (.int (nI t1)), some (.int x2), some (.int (nI 0))]) (st' := [(.int (nI 0))]) (W1 := (mW v2 a b)) (bs := []) rfl rfl rfl ?_
      refine XG.br eX9_tellPair_39 (P := (nI 0) = 0) (r := []) rfl (tgt := 75) (by decide) (fun h39 => ?_) (fun h39 => ?_)
      · skip
        have g39 : 0 = 0 := (nI_eq (a := 0) (b := 0) (by omega) (by omega)).mp h39
        refine XG.blk tX9_tellPair_ok 44 2 (pc' := 77) (pl' := [some (.ref 0), some (.int x1), some (.int (nI t1)), some (.int x2), some (.int (nI 0))]) (st' := [(.int (nI 4)), (.ref 0)]) (W1 := (mW v2 a b)) (bs := []) rfl rfl rfl ?_
        refine XG.callV0 eX9_tellPair_77 kl_X9_277 (con_must (d - 1) v2 a b K hT _ hP2 4 (by omega) (by omega) (by omega)) (px_fitS (by omega)) rfl rfl rfl (Nat.le_of_ble_eq_true rfl) (fun r9 W9 hp9 hl9 => ?_)
        obtain ⟨v4, rfl, hc4, hP4, rfl⟩ := hp9
        have hx134 : ¬ v4 13 ≤ 0 := by rw [hP4.2.1]; exact Int32.not_le.mpr (n1_pos (by have := hP4.1; omega) (by have := hP4.1; omega))
        refine XG.blk tX9_tellPair_ok 47 2 (pc' := 84) (pl' := [some (.ref 0), some (.int x1), some (.int (nI t1)), some (.int x2), some (.int (nI 0))]) (st' := [(.int (v4 13))]) (W1 := (mW v4 a b)) (bs := []) rfl rfl rfl ?_
        refine XG.br eX9_tellPair_84 (P := (v4 13) ≤ 0) (r := []) rfl (tgt := 88) (by decide) (fun h84 => ?_) (fun h84 => ?_)
        · exfalso
          first | exact hx13 h19 | exact h19 hx13 | exact hx134 h84 | exact h84 hx134
        · skip
          refine XS.vret eX9_tellPair_87 rfl ?_
          refine ⟨_, _, _, rfl, FrR.v ((hc1.tr hc2).tr (hc4.mono (by decide))) (by decide), ?_, rfl⟩
          show RQ K sd (bd (bd (bd (bd (.inr s) (knwS K S.2.2.1)) (knwS K S.2.2.1)) _) _) _ _ _
          rw [hr2]
          exact hP4
      · exfalso
        have g39 : ¬ 0 = 0 := (fun z => h39 ((nI_eq (a := 0) (b := 0) (by omega) (by omega)).mpr z))
        omega
    · exfalso
      have h19 := Decidable.not_not.mp h19
      first | exact hx13 h19 | exact h19 hx13 | exact hx134 h84 | exact h84 hx134
  | inr s3 =>
    rw [hr2] at hP2
    have hx13 : v2 13 = 0 := hP2.2.2.1
    have hx12 := hc1.tr hc2
    obtain ⟨s2, e2, m3⟩ := bd_inrE hr2
    obtain ⟨k1, n1, rfl⟩ := knwS_inr e2
    obtain ⟨k2, n2, rfl⟩ := knwS_inr m3
    have x1v := hx1 s rfl _ (mstS_ok k1 n1)
    have x2v := hx2 _ e2 _ (mstS_ok k2 n2)
    rw [e2] at hP1
    obtain rfl : t1 = s.1 + 1 := (nI_eq (by omega) (by have := hP1.1; omega)).mp (h11b.symm.trans hP1.2.1)
    have hK1 := hT s.1 h.1 h.2.2.2.1
    have hK2 := hT (s.1 + 1) hP1.1 hP1.2.2.2.1
    have hK3 := hT (s.1 + 1 + 1) hP2.1 hP2.2.2.2.1
    have hl1 := hK1.2.2.2.2.2.2.2 (by omega)
    have hl2 := hK2.2.2.2.2.2.2.2 (show K.1 (s.1 + 1) ≠ 0 from fun z => by rw [show K.1 (s.1 + 1) = 1 from k2] at z; cases z)
    have x2v : x2 = fnX S.2.2.1 (K.2.2.2 (s.1 + 1)) := x2v
    cases hf1 : fndNm S.2.2.1 (K.2.2.2 s.1) with
    | none =>
      rw [fnX_no hf1] at x1v
      subst x1v
      have htn : twN K S s.1 = none := by unfold twN prOf; rw [hf1]
      refine XG.blk tX9_tellPair_ok 9 2 (pc' := 19) (pl' := [some (.ref 0), some (.int (-1)), some (.int (nI (s.1 + 1))), some (.int x2), none]) (st' := [(.int (v2 13))]) (W1 := (mW v2 a b)) (bs := []) rfl rfl rfl ?_
      refine XG.br eX9_tellPair_19 (P := ¬ (v2 13) = 0) (r := []) rfl (tgt := 34) (by decide) (fun h19 => ?_) (fun h19 => ?_)
      · exfalso
        first | exact hx13 h19 | exact h19 hx13 | exact hx134 h84 | exact h84 hx134
      · skip
        have h19 := Decidable.not_not.mp h19
        refine XG.blk tX9_tellPair_ok 12 1 (pc' := 23) (pl' := [some (.ref 0), some (.int (-1)), some (.int (nI (s.1 + 1))), some (.int x2), none]) (st' := [(.int (-1))]) (W1 := (mW v2 a b)) (bs := []) rfl rfl rfl ?_
        refine XG.br eX9_tellPair_23 (P := (-1) < 0) (r := []) rfl (tgt := 34) (by decide) (fun h23 => ?_) (fun h23 => ?_)
        · skip
          refine XG.blk tX9_tellPair_ok 18 3 (pc' := 39) (pl' := [some (.ref 0), some (.int (-1)), some (.int (nI (s.1 + 1))), some (.int x2), some (.int (nI 0))]) (st' := [(.int (nI 0))]) (W1 := (mW v2 a b)) (bs := []) rfl rfl rfl ?_
          refine XG.br eX9_tellPair_39 (P := (nI 0) = 0) (r := []) rfl (tgt := 75) (by decide) (fun h39 => ?_) (fun h39 => ?_)
          · skip
            have g39 : 0 = 0 := (nI_eq (a := 0) (b := 0) (by omega) (by omega)).mp h39
            refine XG.blk tX9_tellPair_ok 44 2 (pc' := 77) (pl' := [some (.ref 0), some (.int (-1)), some (.int (nI (s.1 + 1))), some (.int x2), some (.int (nI 0))]) (st' := [(.int (nI 4)), (.ref 0)]) (W1 := (mW v2 a b)) (bs := []) rfl rfl rfl ?_
            refine XG.callV0 eX9_tellPair_77 kl_X9_277 (con_must (d - 1) v2 a b K hT _ hP2 4 (by omega) (by omega) (by omega)) (px_fitS (by omega)) rfl rfl rfl (Nat.le_of_ble_eq_true rfl) (fun r9 W9 hp9 hl9 => ?_)
            obtain ⟨v4, rfl, hc4, hP4, rfl⟩ := hp9
            have hvc := hx12.tr (hc4.mono (S' := [11, 13, 14, 15, 16]) (by decide))
            have htw : ¬ twc S.2.2.2.1 (twN K S s.1) = true := by rw [htn]; exact Bool.false_ne_true
            obtain ⟨w3, hw3⟩ : ∃ w3 : PT, bd (bd (.inr s) (knwS K S.2.2.1)) (knwS K S.2.2.1) = .inr w3 ∧ w3.1 = s.1 + 1 + 1 ∧ PVr K (bd (.inr w3) (mstS K 4)) v4 := ⟨_, hr2, rfl, hP4⟩
            obtain ⟨hw3, hw31, hP4⟩ := hw3
            have hpt : paT K s S = bd (mstS K 4 w3) (fun s4 => .inr (s4, va_up S.1 30 (S.1 30 + 1), S.2.1, S.2.2.1, S.2.2.2.1 ++ [twN K S s.1], S.2.2.2.2)) := by
              unfold paT
              rw [hw3]
              show bd (mstS K 4 (_, if twc S.2.2.2.1 (twN K S s.1) = true then _ else _)) _ = _
              rw [if_neg htw]
            cases hr4 : mstS K 4 w3 with
            | inl e =>
              rw [show bd (.inr w3) (mstS K 4) = .inl e from hr4] at hP4
              have hx134 : ¬ v4 13 ≤ 0 := by rw [hP4.2.1]; exact Int32.not_le.mpr (n1_pos (by have := hP4.1; omega) (by have := hP4.1; omega))
              refine XG.blk tX9_tellPair_ok 47 2 (pc' := 84) (pl' := [some (.ref 0), some (.int (-1)), some (.int (nI (s.1 + 1))), some (.int x2), some (.int (nI 0))]) (st' := [(.int (v4 13))]) (W1 := (mW v4 a b)) (bs := []) rfl rfl rfl ?_
              refine XG.br eX9_tellPair_84 (P := (v4 13) ≤ 0) (r := []) rfl (tgt := 88) (by decide) (fun h84 => ?_) (fun h84 => ?_)
              · exfalso
                first | exact hx13 h19 | exact h19 hx13 | exact hx134 h84 | exact h84 hx134
              · skip
                refine XS.vret eX9_tellPair_87 rfl ?_
                refine ⟨_, _, _, rfl, FrR.v hvc (by decide), ?_, rfl⟩
                rw [hpt, hr4]
                exact hP4
            | inr s4 =>
              rw [show bd (.inr w3) (mstS K 4) = .inr s4 from hr4] at hP4
              obtain ⟨-, -, hs4⟩ := mstS_inr hr4
              have hx134 : v4 13 ≤ 0 := by rw [hP4.2.2.1]; decide
              have hsd4 : v4 19 = nI sd := (hvc 19 (by decide)).trans hsd
              refine XG.blk tX9_tellPair_ok 47 2 (pc' := 84) (pl' := [some (.ref 0), some (.int (-1)), some (.int (nI (s.1 + 1))), some (.int x2), some (.int (nI 0))]) (st' := [(.int (v4 13))]) (W1 := (mW v4 a b)) (bs := []) rfl rfl rfl ?_
              refine XG.br eX9_tellPair_84 (P := (v4 13) ≤ 0) (r := []) rfl (tgt := 88) (by decide) (fun h84 => ?_) (fun h84 => ?_)
              · skip
                have q2 : (v4 19) = (nI sd) := hsd4
                have q3 : (nI sd).toNatClampNeg = sd := nI_clamp (by omega)
                have q4 : ((a 30) sd) = (nI (S.1 30)) := h30
                have q5 : ((nI (S.1 30)) + (nI 1)) = (nI ((S.1 30) + 1)) := px_eadd rfl rfl
                refine XG.blk tX9_tellPair_ok 51 10 (pc' := 103) (pl' := [some (.ref 0), some (.int (-1)), some (.int (nI (s.1 + 1))), some (.int x2), some (.int (nI 0))]) (st' := [(.int (nI 0))]) (W1 := (mW v4 (va_up a 30 (upd (a 30) (v4 19).toNatClampNeg (((a 30) (v4 19).toNatClampNeg) + (nI 1)))) b)) (bs := [px_vb (v4 19) 2, px_vb (v4 19) 2]) rfl rfl (by (try simp only [q2, q3, q4, q5]); exact (px_all (px_vbN (by omega) (by decide)) (px_all (px_vbN (by omega) (by decide)) rfl))) ?_
                simp only [q2, q3, q4, q5]
                refine XG.br eX9_tellPair_103 (P := ¬ (nI 0) = 0) (r := []) rfl (tgt := 107) (by decide) (fun h103 => ?_) (fun h103 => ?_)
                · exfalso
                  have g103 : ¬ 0 = 0 := (fun z => h103 ((nI_eq (a := 0) (b := 0) (by omega) (by omega)).mpr z))
                  omega
                · skip
                  have h103 := Decidable.not_not.mp h103
                  have g103 : 0 = 0 := (nI_eq (a := 0) (b := 0) (by omega) (by omega)).mp h103
                  refine XS.vret eX9_tellPair_106 rfl ?_
                  refine ⟨_, _, _, rfl, ⟨hvc.mono (by decide), (FrR.set (v := v) (b := b) 30 sd (nI (S.1 30 + 1)) (by rw [show strd 30 = 1 from by decide]; omega) (by rw [show strd 30 = 1 from by decide]; omega)).2.1, chg.rf⟩, ?_, rfl⟩
                  rw [hpt, hr4]
                  refine ⟨hP4, hR.pair hn (by rw [hs4]; show s.1 ≤ _ + 1; first | omega | (rw [hw31]; omega)) hvc (fun k h1 h2 => if_neg h2) (pk_us) ?_⟩
                  rw [htn]
                  exact PrR_none hR.2.2.2.2.2.1
              · exfalso
                first | exact hx13 h19 | exact h19 hx13 | exact hx134 h84 | exact h84 hx134
          · exfalso
            have g39 : ¬ 0 = 0 := (fun z => h39 ((nI_eq (a := 0) (b := 0) (by omega) (by omega)).mpr z))
            omega
        · exfalso
          first | exact h23 (by decide) | exact absurd h23 (by decide)
    | some i =>
      rw [fnX_yes hf1] at x1v
      subst x1v
      have hi6 : i < 6 := by obtain ⟨e, h3, h4⟩ := fnd_mem hf1; have := hR.2.2.2.2.1.2.2 e h3 i h4; omega
      cases hf2 : fndNm S.2.2.1 (K.2.2.2 (s.1 + 1)) with
      | none =>
        rw [fnX_no hf2] at x2v
        subst x2v
        have htn : twN K S s.1 = none := by unfold twN prOf; rw [hf1, hf2]
        refine XG.blk tX9_tellPair_ok 9 2 (pc' := 19) (pl' := [some (.ref 0), some (.int (nI i)), some (.int (nI (s.1 + 1))), some (.int (-1)), none]) (st' := [(.int (v2 13))]) (W1 := (mW v2 a b)) (bs := []) rfl rfl rfl ?_
        refine XG.br eX9_tellPair_19 (P := ¬ (v2 13) = 0) (r := []) rfl (tgt := 34) (by decide) (fun h19 => ?_) (fun h19 => ?_)
        · exfalso
          first | exact hx13 h19 | exact h19 hx13 | exact hx134 h84 | exact h84 hx134
        · skip
          have h19 := Decidable.not_not.mp h19
          refine XG.blk tX9_tellPair_ok 12 1 (pc' := 23) (pl' := [some (.ref 0), some (.int (nI i)), some (.int (nI (s.1 + 1))), some (.int (-1)), none]) (st' := [(.int (nI i))]) (W1 := (mW v2 a b)) (bs := []) rfl rfl rfl ?_
          refine XG.br eX9_tellPair_23 (P := (nI i) < 0) (r := []) rfl (tgt := 34) (by decide) (fun h23 => ?_) (fun h23 => ?_)
          · exfalso
            have g23 : i < 0 := (nI_ltI (a := i) (b := 0) (by omega) (by omega)).mp h23
            omega
          · skip
            have g23 : ¬ i < 0 := (fun z => h23 ((nI_ltI (a := i) (b := 0) (by omega) (by omega)).mpr z))
            refine XG.blk tX9_tellPair_ok 14 1 (pc' := 27) (pl' := [some (.ref 0), some (.int (nI i)), some (.int (nI (s.1 + 1))), some (.int (-1)), none]) (st' := [(.int (-1))]) (W1 := (mW v2 a b)) (bs := []) rfl rfl rfl ?_
            refine XG.br eX9_tellPair_27 (P := (-1) < 0) (r := []) rfl (tgt := 34) (by decide) (fun h27 => ?_) (fun h27 => ?_)
            · skip
              refine XG.blk tX9_tellPair_ok 18 3 (pc' := 39) (pl' := [some (.ref 0), some (.int (nI i)), some (.int (nI (s.1 + 1))), some (.int (-1)), some (.int (nI 0))]) (st' := [(.int (nI 0))]) (W1 := (mW v2 a b)) (bs := []) rfl rfl rfl ?_
              refine XG.br eX9_tellPair_39 (P := (nI 0) = 0) (r := []) rfl (tgt := 75) (by decide) (fun h39 => ?_) (fun h39 => ?_)
              · skip
                have g39 : 0 = 0 := (nI_eq (a := 0) (b := 0) (by omega) (by omega)).mp h39
                refine XG.blk tX9_tellPair_ok 44 2 (pc' := 77) (pl' := [some (.ref 0), some (.int (nI i)), some (.int (nI (s.1 + 1))), some (.int (-1)), some (.int (nI 0))]) (st' := [(.int (nI 4)), (.ref 0)]) (W1 := (mW v2 a b)) (bs := []) rfl rfl rfl ?_
                refine XG.callV0 eX9_tellPair_77 kl_X9_277 (con_must (d - 1) v2 a b K hT _ hP2 4 (by omega) (by omega) (by omega)) (px_fitS (by omega)) rfl rfl rfl (Nat.le_of_ble_eq_true rfl) (fun r9 W9 hp9 hl9 => ?_)
                obtain ⟨v4, rfl, hc4, hP4, rfl⟩ := hp9
                have hvc := hx12.tr (hc4.mono (S' := [11, 13, 14, 15, 16]) (by decide))
                have htw : ¬ twc S.2.2.2.1 (twN K S s.1) = true := by rw [htn]; exact Bool.false_ne_true
                obtain ⟨w3, hw3⟩ : ∃ w3 : PT, bd (bd (.inr s) (knwS K S.2.2.1)) (knwS K S.2.2.1) = .inr w3 ∧ w3.1 = s.1 + 1 + 1 ∧ PVr K (bd (.inr w3) (mstS K 4)) v4 := ⟨_, hr2, rfl, hP4⟩
                obtain ⟨hw3, hw31, hP4⟩ := hw3
                have hpt : paT K s S = bd (mstS K 4 w3) (fun s4 => .inr (s4, va_up S.1 30 (S.1 30 + 1), S.2.1, S.2.2.1, S.2.2.2.1 ++ [twN K S s.1], S.2.2.2.2)) := by
                  unfold paT
                  rw [hw3]
                  show bd (mstS K 4 (_, if twc S.2.2.2.1 (twN K S s.1) = true then _ else _)) _ = _
                  rw [if_neg htw]
                cases hr4 : mstS K 4 w3 with
                | inl e =>
                  rw [show bd (.inr w3) (mstS K 4) = .inl e from hr4] at hP4
                  have hx134 : ¬ v4 13 ≤ 0 := by rw [hP4.2.1]; exact Int32.not_le.mpr (n1_pos (by have := hP4.1; omega) (by have := hP4.1; omega))
                  refine XG.blk tX9_tellPair_ok 47 2 (pc' := 84) (pl' := [some (.ref 0), some (.int (nI i)), some (.int (nI (s.1 + 1))), some (.int (-1)), some (.int (nI 0))]) (st' := [(.int (v4 13))]) (W1 := (mW v4 a b)) (bs := []) rfl rfl rfl ?_
                  refine XG.br eX9_tellPair_84 (P := (v4 13) ≤ 0) (r := []) rfl (tgt := 88) (by decide) (fun h84 => ?_) (fun h84 => ?_)
                  · exfalso
                    first | exact hx13 h19 | exact h19 hx13 | exact hx134 h84 | exact h84 hx134
                  · skip
                    refine XS.vret eX9_tellPair_87 rfl ?_
                    refine ⟨_, _, _, rfl, FrR.v hvc (by decide), ?_, rfl⟩
                    rw [hpt, hr4]
                    exact hP4
                | inr s4 =>
                  rw [show bd (.inr w3) (mstS K 4) = .inr s4 from hr4] at hP4
                  obtain ⟨-, -, hs4⟩ := mstS_inr hr4
                  have hx134 : v4 13 ≤ 0 := by rw [hP4.2.2.1]; decide
                  have hsd4 : v4 19 = nI sd := (hvc 19 (by decide)).trans hsd
                  refine XG.blk tX9_tellPair_ok 47 2 (pc' := 84) (pl' := [some (.ref 0), some (.int (nI i)), some (.int (nI (s.1 + 1))), some (.int (-1)), some (.int (nI 0))]) (st' := [(.int (v4 13))]) (W1 := (mW v4 a b)) (bs := []) rfl rfl rfl ?_
                  refine XG.br eX9_tellPair_84 (P := (v4 13) ≤ 0) (r := []) rfl (tgt := 88) (by decide) (fun h84 => ?_) (fun h84 => ?_)
                  · skip
                    have q6 : (v4 19) = (nI sd) := hsd4
                    have q7 : (nI sd).toNatClampNeg = sd := nI_clamp (by omega)
                    have q8 : ((a 30) sd) = (nI (S.1 30)) := h30
                    have q9 : ((nI (S.1 30)) + (nI 1)) = (nI ((S.1 30) + 1)) := px_eadd rfl rfl
                    refine XG.blk tX9_tellPair_ok 51 10 (pc' := 103) (pl' := [some (.ref 0), some (.int (nI i)), some (.int (nI (s.1 + 1))), some (.int (-1)), some (.int (nI 0))]) (st' := [(.int (nI 0))]) (W1 := (mW v4 (va_up a 30 (upd (a 30) (v4 19).toNatClampNeg (((a 30) (v4 19).toNatClampNeg) + (nI 1)))) b)) (bs := [px_vb (v4 19) 2, px_vb (v4 19) 2]) rfl rfl (by (try simp only [q6, q7, q8, q9]); exact (px_all (px_vbN (by omega) (by decide)) (px_all (px_vbN (by omega) (by decide)) rfl))) ?_
                    simp only [q6, q7, q8, q9]
                    refine XG.br eX9_tellPair_103 (P := ¬ (nI 0) = 0) (r := []) rfl (tgt := 107) (by decide) (fun h103 => ?_) (fun h103 => ?_)
                    · exfalso
                      have g103 : ¬ 0 = 0 := (fun z => h103 ((nI_eq (a := 0) (b := 0) (by omega) (by omega)).mpr z))
                      omega
                    · skip
                      have h103 := Decidable.not_not.mp h103
                      have g103 : 0 = 0 := (nI_eq (a := 0) (b := 0) (by omega) (by omega)).mp h103
                      refine XS.vret eX9_tellPair_106 rfl ?_
                      refine ⟨_, _, _, rfl, ⟨hvc.mono (by decide), (FrR.set (v := v) (b := b) 30 sd (nI (S.1 30 + 1)) (by rw [show strd 30 = 1 from by decide]; omega) (by rw [show strd 30 = 1 from by decide]; omega)).2.1, chg.rf⟩, ?_, rfl⟩
                      rw [hpt, hr4]
                      refine ⟨hP4, hR.pair hn (by rw [hs4]; show s.1 ≤ _ + 1; first | omega | (rw [hw31]; omega)) hvc (fun k h1 h2 => if_neg h2) (pk_us) ?_⟩
                      rw [htn]
                      exact PrR_none hR.2.2.2.2.2.1
                  · exfalso
                    first | exact hx13 h19 | exact h19 hx13 | exact hx134 h84 | exact h84 hx134
              · exfalso
                have g39 : ¬ 0 = 0 := (fun z => h39 ((nI_eq (a := 0) (b := 0) (by omega) (by omega)).mpr z))
                omega
            · exfalso
              first | exact h27 (by decide) | exact absurd h27 (by decide)
      | some j =>
        rw [fnX_yes hf2] at x2v
        subst x2v
        have hj6 : j < 6 := by obtain ⟨e, h3, h4⟩ := fnd_mem hf2; have := hR.2.2.2.2.1.2.2 e h3 j h4; omega
        have htn : twN K S s.1 = some (i, j) := by unfold twN prOf; rw [hf1, hf2]
        obtain ⟨m, hm⟩ := id hR.2.2.2.2.2.1
        have hmi := hm i hi6
        rw [hf1, hf2] at hP2
        have hP2 : PVr K (.inr (s.1 + 1 + 1, s.2)) v2 := hP2
        refine XG.blk tX9_tellPair_ok 9 2 (pc' := 19) (pl' := [some (.ref 0), some (.int (nI i)), some (.int (nI (s.1 + 1))), some (.int (nI j)), none]) (st' := [(.int (v2 13))]) (W1 := (mW v2 a b)) (bs := []) rfl rfl rfl ?_
        refine XG.br eX9_tellPair_19 (P := ¬ (v2 13) = 0) (r := []) rfl (tgt := 34) (by decide) (fun h19 => ?_) (fun h19 => ?_)
        · exfalso
          first | exact hx13 h19 | exact h19 hx13 | exact hx134 h84 | exact h84 hx134
        · skip
          have h19 := Decidable.not_not.mp h19
          refine XG.blk tX9_tellPair_ok 12 1 (pc' := 23) (pl' := [some (.ref 0), some (.int (nI i)), some (.int (nI (s.1 + 1))), some (.int (nI j)), none]) (st' := [(.int (nI i))]) (W1 := (mW v2 a b)) (bs := []) rfl rfl rfl ?_
          refine XG.br eX9_tellPair_23 (P := (nI i) < 0) (r := []) rfl (tgt := 34) (by decide) (fun h23 => ?_) (fun h23 => ?_)
          · exfalso
            have g23 : i < 0 := (nI_ltI (a := i) (b := 0) (by omega) (by omega)).mp h23
            omega
          · skip
            have g23 : ¬ i < 0 := (fun z => h23 ((nI_ltI (a := i) (b := 0) (by omega) (by omega)).mpr z))
            refine XG.blk tX9_tellPair_ok 14 1 (pc' := 27) (pl' := [some (.ref 0), some (.int (nI i)), some (.int (nI (s.1 + 1))), some (.int (nI j)), none]) (st' := [(.int (nI j))]) (W1 := (mW v2 a b)) (bs := []) rfl rfl rfl ?_
            refine XG.br eX9_tellPair_27 (P := (nI j) < 0) (r := []) rfl (tgt := 34) (by decide) (fun h27 => ?_) (fun h27 => ?_)
            · exfalso
              have g27 : j < 0 := (nI_ltI (a := j) (b := 0) (by omega) (by omega)).mp h27
              omega
            · skip
              have g27 : ¬ j < 0 := (fun z => h27 ((nI_ltI (a := j) (b := 0) (by omega) (by omega)).mpr z))
              refine XG.blk tX9_tellPair_ok 16 1 (pc' := 31) (pl' := [some (.ref 0), some (.int (nI i)), some (.int (nI (s.1 + 1))), some (.int (nI j)), none]) (st' := [(.int (nI 1))]) (W1 := (mW v2 a b)) (bs := []) rfl rfl rfl ?_
              refine XG.goto eX9_tellPair_31 (tgt := 35) (by decide) ?_
              refine XG.blk tX9_tellPair_ok 19 2 (pc' := 39) (pl' := [some (.ref 0), some (.int (nI i)), some (.int (nI (s.1 + 1))), some (.int (nI j)), some (.int (nI 1))]) (st' := [(.int (nI 1))]) (W1 := (mW v2 a b)) (bs := []) rfl rfl rfl ?_
              refine XG.br eX9_tellPair_39 (P := (nI 1) = 0) (r := []) rfl (tgt := 75) (by decide) (fun h39 => ?_) (fun h39 => ?_)
              · exfalso
                have g39 : 1 = 0 := (nI_eq (a := 1) (b := 0) (by omega) (by omega)).mp h39
                omega
              · skip
                have g39 : ¬ 1 = 0 := (fun z => h39 ((nI_eq (a := 1) (b := 0) (by omega) (by omega)).mpr z))
                refine XG.blk tX9_tellPair_ok 22 2 (pc' := 44) (pl' := [some (.ref 0), some (.int (nI i)), some (.int (nI (s.1 + 1))), some (.int (nI j)), some (.int (nI 1))]) (st' := [(.int (nI j)), (.int (nI i))]) (W1 := (mW v2 a b)) (bs := []) rfl rfl rfl ?_
                refine XG.br eX9_tellPair_44 (P := (nI i) = (nI j)) (r := []) rfl (tgt := 69) (by decide) (fun h44 => ?_) (fun h44 => ?_)
                · skip
                  have g44 : i = j := (nI_eq (a := i) (b := j) (by omega) (by omega)).mp h44
                  refine XG.blk tX9_tellPair_ok 40 3 (pc' := 72) (pl' := [some (.ref 0), some (.int (nI i)), some (.int (nI (s.1 + 1))), some (.int (nI j)), some (.int (nI 1))]) (st' := [(.int (nI (s.1 + 1))), (.int (nI 3)), (.ref 0)]) (W1 := (mW v2 a b)) (bs := []) rfl rfl rfl ?_
                  refine XG.callV0 eX9_tellPair_72 kl_X9_263 (con_wrong (d - 1) v2 a b (s.1 + 1) (by omega) (nI 3)) (px_fitS (by omega)) rfl rfl rfl (Nat.le_of_ble_eq_true rfl) (fun r9 W9 hp9 hl9 => ?_)
                  obtain ⟨rfl, rfl⟩ := hp9
                  rw [hK2.2.1]
                  have hP3 := hP2.note (k := 3) (p := K.2.1 (s.1 + 1)) hl2 hK3.2.2.2.2.2.1 (by decide) (fun y hy => Or.inl (Nat.lt_trans (PVr.w (t := s.1) (w := s.2) h y hy) hl1))
                  have hc3 := wrgV_chg (v := v2) (p := nI (K.2.1 (s.1 + 1))) (k := nI 3)
                  generalize wrgV v2 (nI (K.2.1 (s.1 + 1))) (nI 3) = v3 at hP3 hc3 ⊢
                  refine XG.blk tX9_tellPair_ok 44 2 (pc' := 77) (pl' := [some (.ref 0), some (.int (nI i)), some (.int (nI (s.1 + 1))), some (.int (nI j)), some (.int (nI 1))]) (st' := [(.int (nI 4)), (.ref 0)]) (W1 := (mW v3 a b)) (bs := []) rfl rfl rfl ?_
                  refine XG.callV0 eX9_tellPair_77 kl_X9_277 (con_must (d - 1) v3 a b K hT _ hP3 4 (by omega) (by omega) (by omega)) (px_fitS (by omega)) rfl rfl rfl (Nat.le_of_ble_eq_true rfl) (fun r9 W9 hp9 hl9 => ?_)
                  obtain ⟨v4, rfl, hc4, hP4, rfl⟩ := hp9
                  have hvc := (hx12.tr (hc3.mono (S' := [11, 13, 14, 15, 16]) (by decide))).tr (hc4.mono (by decide))
                  have htw : twc S.2.2.2.1 (twN K S s.1) = true := by
                    rw [htn]
                    show (decide (i = j) || hasPr S.2.2.2.1 i j) = true
                    first | (rw [← hmi.2.2 j hj6, (bitT' hmi.2.1 hj6).mp (by rw [← hmi.1]; exact h66)]; simp) | (simp only [show i = j from g44]; simp)
                  have hpt : paT K s S = bd (mstS K 4 (s.1 + 1 + 1, noteS s.2 3 (K.2.1 (s.1 + 1)))) (fun s4 => .inr (s4, va_up S.1 30 (S.1 30 + 1), S.2.1, S.2.2.1, S.2.2.2.1 ++ [twN K S s.1], S.2.2.2.2)) := by
                    unfold paT
                    rw [hr2]
                    show bd (mstS K 4 (_, if twc S.2.2.2.1 (twN K S s.1) = true then _ else _)) _ = _
                    rw [if_pos htw, hf1, hf2]
                    rfl
                  cases hr4 : mstS K 4 (s.1 + 1 + 1, noteS s.2 3 (K.2.1 (s.1 + 1))) with
                  | inl e =>
                    rw [show bd (.inr (s.1 + 1 + 1, noteS s.2 3 (K.2.1 (s.1 + 1)))) (mstS K 4) = .inl e from hr4] at hP4
                    have hx134 : ¬ v4 13 ≤ 0 := by rw [hP4.2.1]; exact Int32.not_le.mpr (n1_pos (by have := hP4.1; omega) (by have := hP4.1; omega))
                    refine XG.blk tX9_tellPair_ok 47 2 (pc' := 84) (pl' := [some (.ref 0), some (.int (nI i)), some (.int (nI (s.1 + 1))), some (.int (nI j)), some (.int (nI 1))]) (st' := [(.int (v4 13))]) (W1 := (mW v4 a b)) (bs := []) rfl rfl rfl ?_
                    refine XG.br eX9_tellPair_84 (P := (v4 13) ≤ 0) (r := []) rfl (tgt := 88) (by decide) (fun h84 => ?_) (fun h84 => ?_)
                    · exfalso
                      first | exact hx13 h19 | exact h19 hx13 | exact hx134 h84 | exact h84 hx134
                    · skip
                      refine XS.vret eX9_tellPair_87 rfl ?_
                      refine ⟨_, _, _, rfl, FrR.v hvc (by decide), ?_, rfl⟩
                      rw [hpt, hr4]
                      exact hP4
                  | inr s4 =>
                    rw [show bd (.inr (s.1 + 1 + 1, noteS s.2 3 (K.2.1 (s.1 + 1)))) (mstS K 4) = .inr s4 from hr4] at hP4
                    obtain ⟨-, -, hs4⟩ := mstS_inr hr4
                    have hx134 : v4 13 ≤ 0 := by rw [hP4.2.2.1]; decide
                    have hsd4 : v4 19 = nI sd := (hvc 19 (by decide)).trans hsd
                    refine XG.blk tX9_tellPair_ok 47 2 (pc' := 84) (pl' := [some (.ref 0), some (.int (nI i)), some (.int (nI (s.1 + 1))), some (.int (nI j)), some (.int (nI 1))]) (st' := [(.int (v4 13))]) (W1 := (mW v4 a b)) (bs := []) rfl rfl rfl ?_
                    refine XG.br eX9_tellPair_84 (P := (v4 13) ≤ 0) (r := []) rfl (tgt := 88) (by decide) (fun h84 => ?_) (fun h84 => ?_)
                    · skip
                      have q10 : (v4 19) = (nI sd) := hsd4
                      have q11 : (nI sd).toNatClampNeg = sd := nI_clamp (by omega)
                      have q12 : ((a 30) sd) = (nI (S.1 30)) := h30
                      have q13 : ((nI (S.1 30)) + (nI 1)) = (nI ((S.1 30) + 1)) := px_eadd rfl rfl
                      refine XG.blk tX9_tellPair_ok 51 10 (pc' := 103) (pl' := [some (.ref 0), some (.int (nI i)), some (.int (nI (s.1 + 1))), some (.int (nI j)), some (.int (nI 1))]) (st' := [(.int (nI 1))]) (W1 := (mW v4 (va_up a 30 (upd (a 30) (v4 19).toNatClampNeg (((a 30) (v4 19).toNatClampNeg) + (nI 1)))) b)) (bs := [px_vb (v4 19) 2, px_vb (v4 19) 2]) rfl rfl (by (try simp only [q10, q11, q12, q13]); exact (px_all (px_vbN (by omega) (by decide)) (px_all (px_vbN (by omega) (by decide)) rfl))) ?_
                      simp only [q10, q11, q12, q13]
                      refine XG.br eX9_tellPair_103 (P := ¬ (nI 1) = 0) (r := []) rfl (tgt := 107) (by decide) (fun h103 => ?_) (fun h103 => ?_)
                      · skip
                        have g103 : ¬ 1 = 0 := (fun z => h103 ((nI_eq (a := 1) (b := 0) (by omega) (by omega)).mpr z))
                        have q14 : (v4 19) = (nI sd) := hsd4
                        have q15 : ((nI 6) * (nI sd)) = (nI (6 * sd)) := px_emul rfl rfl
                        have q16 : ((nI (6 * sd)) + (nI i)) = (nI ((6 * sd) + i)) := px_eadd rfl rfl
                        have q17 : (nI ((6 * sd) + i)).toNatClampNeg = ((6 * sd) + i) := nI_clamp (by omega)
                        have q18 : ((nI (6 * sd)) + (nI j)) = (nI ((6 * sd) + j)) := px_eadd rfl rfl
                        have q19 : (nI ((6 * sd) + j)).toNatClampNeg = ((6 * sd) + j) := nI_clamp (by omega)
                        refine XG.blk tX9_tellPair_ok 63 30 (pc' := 147) (pl' := [some (.ref 0), some (.int (nI i)), some (.int (nI (s.1 + 1))), some (.int (nI j)), some (.int (nI 1))]) (st' := []) (W1 := (mW v4 (va_up (va_up a 30 (upd (a 30) sd (nI ((S.1 30) + 1)))) 29 (upd (upd (a 29) (((nI 6) * (v4 19)) + (nI i)).toNatClampNeg (((a 29) (((nI 6) * (v4 19)) + (nI i)).toNatClampNeg) ||| ((nI 1) <<< ((nI j) &&& 31)))) (((nI 6) * (v4 19)) + (nI j)).toNatClampNeg (((upd (a 29) (((nI 6) * (v4 19)) + (nI i)).toNatClampNeg (((a 29) (((nI 6) * (v4 19)) + (nI i)).toNatClampNeg) ||| ((nI 1) <<< ((nI j) &&& 31)))) (((nI 6) * (v4 19)) + (nI j)).toNatClampNeg) ||| ((nI 1) <<< ((nI i) &&& 31))))) b)) (bs := [px_vb (((nI 6) * (v4 19)) + (nI i)) 12, px_vb (((nI 6) * (v4 19)) + (nI i)) 12, px_vb (((nI 6) * (v4 19)) + (nI j)) 12, px_vb (((nI 6) * (v4 19)) + (nI j)) 12]) rfl rfl (by (try simp only [q14, q15, q16, q17, q18, q19]); exact (px_all (px_vbN (by omega) (by decide)) (px_all (px_vbN (by omega) (by decide)) (px_all (px_vbN (by omega) (by decide)) (px_all (px_vbN (by omega) (by decide)) rfl))))) ?_
                        simp only [q14, q15, q16, q17, q18, q19]
                        refine XS.vret eX9_tellPair_147 rfl ?_
                        refine ⟨_, _, _, rfl, ⟨hvc.mono (by decide), ?_, chg.rf⟩, ?_, rfl⟩
                        · exact ((FrR.set (v := v) (b := b) 30 sd (nI (S.1 30 + 1)) (by rw [show strd 30 = 1 from by decide]; omega) (by rw [show strd 30 = 1 from by decide]; omega)).tr (FrR.set2 29 (6 * sd + i) (6 * sd + j) _ _ (by rw [show strd 29 = 6 from by decide]; omega) (by rw [show strd 29 = 6 from by decide]; omega))).2.1
                        rw [hpt, hr4]
                        refine ⟨hP4, hR.pair hn (by rw [hs4]; show s.1 ≤ _ + 1; first | omega | (rw [hw31]; omega)) hvc (fun k h1 h2 => (if_neg h1).trans (if_neg h2)) (pk_us) ?_⟩
                        rw [htn]
                        exact PrR_some hR.2.2.2.2.2.1 hi6 hj6
                      · exfalso
                        have h103 := Decidable.not_not.mp h103
                        have g103 : 1 = 0 := (nI_eq (a := 1) (b := 0) (by omega) (by omega)).mp h103
                        omega
                    · exfalso
                      first | exact hx13 h19 | exact h19 hx13 | exact hx134 h84 | exact h84 hx134
                · skip
                  have g44 : ¬ i = j := (fun z => h44 ((nI_eq (a := i) (b := j) (by omega) (by omega)).mpr z))
                  have q20 : (v2 19) = (nI sd) := (hc2 19 (by decide)).trans ((hc1 19 (by decide)).trans hsd)
                  have q21 : ((nI 6) * (nI sd)) = (nI (6 * sd)) := px_emul rfl rfl
                  have q22 : ((nI (6 * sd)) + (nI i)) = (nI ((6 * sd) + i)) := px_eadd rfl rfl
                  have q23 : (nI ((6 * sd) + i)).toNatClampNeg = ((6 * sd) + i) := nI_clamp (by omega)
                  refine XG.blk tX9_tellPair_ok 25 14 (pc' := 66) (pl' := [some (.ref 0), some (.int (nI i)), some (.int (nI (s.1 + 1))), some (.int (nI j)), some (.int (nI 1))]) (st' := [(.int (nI 1)), (.int ((((a 29) (((nI 6) * (v2 19)) + (nI i)).toNatClampNeg) >>> ((nI j) &&& 31)) &&& (nI 1)))]) (W1 := (mW v2 a b)) (bs := [px_vb (((nI 6) * (v2 19)) + (nI i)) 12]) rfl rfl (by (try simp only [q20, q21, q22, q23]); exact (px_all (px_vbN (by omega) (by decide)) rfl)) ?_
                  simp only [q20, q21, q22, q23]
                  refine XG.br eX9_tellPair_66 (P := ¬ ((((a 29) ((6 * sd) + i)) >>> ((nI j) &&& 31)) &&& (nI 1)) = (nI 1)) (r := []) rfl (tgt := 75) (by decide) (fun h66 => ?_) (fun h66 => ?_)
                  · skip
                    refine XG.blk tX9_tellPair_ok 44 2 (pc' := 77) (pl' := [some (.ref 0), some (.int (nI i)), some (.int (nI (s.1 + 1))), some (.int (nI j)), some (.int (nI 1))]) (st' := [(.int (nI 4)), (.ref 0)]) (W1 := (mW v2 a b)) (bs := []) rfl rfl rfl ?_
                    refine XG.callV0 eX9_tellPair_77 kl_X9_277 (con_must (d - 1) v2 a b K hT _ hP2 4 (by omega) (by omega) (by omega)) (px_fitS (by omega)) rfl rfl rfl (Nat.le_of_ble_eq_true rfl) (fun r9 W9 hp9 hl9 => ?_)
                    obtain ⟨v4, rfl, hc4, hP4, rfl⟩ := hp9
                    have hvc := hx12.tr (hc4.mono (S' := [11, 13, 14, 15, 16]) (by decide))
                    have htw : ¬ twc S.2.2.2.1 (twN K S s.1) = true := by
                      rw [htn]
                      show ¬ (decide (i = j) || hasPr S.2.2.2.1 i j) = true
                      rw [← hmi.2.2 j hj6, Bool.or_eq_true]
                      rintro (z | z)
                      · exact g44 (of_decide_eq_true z)
                      · exact h66 (by rw [hmi.1]; exact (bitT' hmi.2.1 hj6).mpr z)
                    have hpt : paT K s S = bd (mstS K 4 (s.1 + 1 + 1, s.2)) (fun s4 => .inr (s4, va_up S.1 30 (S.1 30 + 1), S.2.1, S.2.2.1, S.2.2.2.1 ++ [twN K S s.1], S.2.2.2.2)) := by
                      unfold paT
                      rw [hr2]
                      show bd (mstS K 4 (_, if twc S.2.2.2.1 (twN K S s.1) = true then _ else _)) _ = _
                      rw [if_neg htw, hf1, hf2]
                      rfl
                    cases hr4 : mstS K 4 (s.1 + 1 + 1, s.2) with
                    | inl e =>
                      rw [show bd (.inr (s.1 + 1 + 1, s.2)) (mstS K 4) = .inl e from hr4] at hP4
                      have hx134 : ¬ v4 13 ≤ 0 := by rw [hP4.2.1]; exact Int32.not_le.mpr (n1_pos (by have := hP4.1; omega) (by have := hP4.1; omega))
                      refine XG.blk tX9_tellPair_ok 47 2 (pc' := 84) (pl' := [some (.ref 0), some (.int (nI i)), some (.int (nI (s.1 + 1))), some (.int (nI j)), some (.int (nI 1))]) (st' := [(.int (v4 13))]) (W1 := (mW v4 a b)) (bs := []) rfl rfl rfl ?_
                      refine XG.br eX9_tellPair_84 (P := (v4 13) ≤ 0) (r := []) rfl (tgt := 88) (by decide) (fun h84 => ?_) (fun h84 => ?_)
                      · exfalso
                        first | exact hx13 h19 | exact h19 hx13 | exact hx134 h84 | exact h84 hx134
                      · skip
                        refine XS.vret eX9_tellPair_87 rfl ?_
                        refine ⟨_, _, _, rfl, FrR.v hvc (by decide), ?_, rfl⟩
                        rw [hpt, hr4]
                        exact hP4
                    | inr s4 =>
                      rw [show bd (.inr (s.1 + 1 + 1, s.2)) (mstS K 4) = .inr s4 from hr4] at hP4
                      obtain ⟨-, -, hs4⟩ := mstS_inr hr4
                      have hx134 : v4 13 ≤ 0 := by rw [hP4.2.2.1]; decide
                      have hsd4 : v4 19 = nI sd := (hvc 19 (by decide)).trans hsd
                      refine XG.blk tX9_tellPair_ok 47 2 (pc' := 84) (pl' := [some (.ref 0), some (.int (nI i)), some (.int (nI (s.1 + 1))), some (.int (nI j)), some (.int (nI 1))]) (st' := [(.int (v4 13))]) (W1 := (mW v4 a b)) (bs := []) rfl rfl rfl ?_
                      refine XG.br eX9_tellPair_84 (P := (v4 13) ≤ 0) (r := []) rfl (tgt := 88) (by decide) (fun h84 => ?_) (fun h84 => ?_)
                      · skip
                        have q24 : (v4 19) = (nI sd) := hsd4
                        have q25 : (nI sd).toNatClampNeg = sd := nI_clamp (by omega)
                        have q26 : ((a 30) sd) = (nI (S.1 30)) := h30
                        have q27 : ((nI (S.1 30)) + (nI 1)) = (nI ((S.1 30) + 1)) := px_eadd rfl rfl
                        refine XG.blk tX9_tellPair_ok 51 10 (pc' := 103) (pl' := [some (.ref 0), some (.int (nI i)), some (.int (nI (s.1 + 1))), some (.int (nI j)), some (.int (nI 1))]) (st' := [(.int (nI 1))]) (W1 := (mW v4 (va_up a 30 (upd (a 30) (v4 19).toNatClampNeg (((a 30) (v4 19).toNatClampNeg) + (nI 1)))) b)) (bs := [px_vb (v4 19) 2, px_vb (v4 19) 2]) rfl rfl (by (try simp only [q24, q25, q26, q27]); exact (px_all (px_vbN (by omega) (by decide)) (px_all (px_vbN (by omega) (by decide)) rfl))) ?_
                        simp only [q24, q25, q26, q27]
                        refine XG.br eX9_tellPair_103 (P := ¬ (nI 1) = 0) (r := []) rfl (tgt := 107) (by decide) (fun h103 => ?_) (fun h103 => ?_)
                        · skip
                          have g103 : ¬ 1 = 0 := (fun z => h103 ((nI_eq (a := 1) (b := 0) (by omega) (by omega)).mpr z))
                          have q28 : (v4 19) = (nI sd) := hsd4
                          have q29 : ((nI 6) * (nI sd)) = (nI (6 * sd)) := px_emul rfl rfl
                          have q30 : ((nI (6 * sd)) + (nI i)) = (nI ((6 * sd) + i)) := px_eadd rfl rfl
                          have q31 : (nI ((6 * sd) + i)).toNatClampNeg = ((6 * sd) + i) := nI_clamp (by omega)
                          have q32 : ((nI (6 * sd)) + (nI j)) = (nI ((6 * sd) + j)) := px_eadd rfl rfl
                          have q33 : (nI ((6 * sd) + j)).toNatClampNeg = ((6 * sd) + j) := nI_clamp (by omega)
                          refine XG.blk tX9_tellPair_ok 63 30 (pc' := 147) (pl' := [some (.ref 0), some (.int (nI i)), some (.int (nI (s.1 + 1))), some (.int (nI j)), some (.int (nI 1))]) (st' := []) (W1 := (mW v4 (va_up (va_up a 30 (upd (a 30) sd (nI ((S.1 30) + 1)))) 29 (upd (upd (a 29) (((nI 6) * (v4 19)) + (nI i)).toNatClampNeg (((a 29) (((nI 6) * (v4 19)) + (nI i)).toNatClampNeg) ||| ((nI 1) <<< ((nI j) &&& 31)))) (((nI 6) * (v4 19)) + (nI j)).toNatClampNeg (((upd (a 29) (((nI 6) * (v4 19)) + (nI i)).toNatClampNeg (((a 29) (((nI 6) * (v4 19)) + (nI i)).toNatClampNeg) ||| ((nI 1) <<< ((nI j) &&& 31)))) (((nI 6) * (v4 19)) + (nI j)).toNatClampNeg) ||| ((nI 1) <<< ((nI i) &&& 31))))) b)) (bs := [px_vb (((nI 6) * (v4 19)) + (nI i)) 12, px_vb (((nI 6) * (v4 19)) + (nI i)) 12, px_vb (((nI 6) * (v4 19)) + (nI j)) 12, px_vb (((nI 6) * (v4 19)) + (nI j)) 12]) rfl rfl (by (try simp only [q28, q29, q30, q31, q32, q33]); exact (px_all (px_vbN (by omega) (by decide)) (px_all (px_vbN (by omega) (by decide)) (px_all (px_vbN (by omega) (by decide)) (px_all (px_vbN (by omega) (by decide)) rfl))))) ?_
                          simp only [q28, q29, q30, q31, q32, q33]
                          refine XS.vret eX9_tellPair_147 rfl ?_
                          refine ⟨_, _, _, rfl, ⟨hvc.mono (by decide), ?_, chg.rf⟩, ?_, rfl⟩
                          · exact ((FrR.set (v := v) (b := b) 30 sd (nI (S.1 30 + 1)) (by rw [show strd 30 = 1 from by decide]; omega) (by rw [show strd 30 = 1 from by decide]; omega)).tr (FrR.set2 29 (6 * sd + i) (6 * sd + j) _ _ (by rw [show strd 29 = 6 from by decide]; omega) (by rw [show strd 29 = 6 from by decide]; omega))).2.1
                          rw [hpt, hr4]
                          refine ⟨hP4, hR.pair hn (by rw [hs4]; show s.1 ≤ _ + 1; first | omega | (rw [hw31]; omega)) hvc (fun k h1 h2 => (if_neg h1).trans (if_neg h2)) (pk_us) ?_⟩
                          rw [htn]
                          exact PrR_some hR.2.2.2.2.2.1 hi6 hj6
                        · exfalso
                          have h103 := Decidable.not_not.mp h103
                          have g103 : 1 = 0 := (nI_eq (a := 1) (b := 0) (by omega) (by omega)).mp h103
                          omega
                      · exfalso
                        first | exact hx13 h19 | exact h19 hx13 | exact hx134 h84 | exact h84 hx134
                  · skip
                    have h66 := Decidable.not_not.mp h66
                    refine XG.blk tX9_tellPair_ok 40 3 (pc' := 72) (pl' := [some (.ref 0), some (.int (nI i)), some (.int (nI (s.1 + 1))), some (.int (nI j)), some (.int (nI 1))]) (st' := [(.int (nI (s.1 + 1))), (.int (nI 3)), (.ref 0)]) (W1 := (mW v2 a b)) (bs := []) rfl rfl rfl ?_
                    refine XG.callV0 eX9_tellPair_72 kl_X9_263 (con_wrong (d - 1) v2 a b (s.1 + 1) (by omega) (nI 3)) (px_fitS (by omega)) rfl rfl rfl (Nat.le_of_ble_eq_true rfl) (fun r9 W9 hp9 hl9 => ?_)
                    obtain ⟨rfl, rfl⟩ := hp9
                    rw [hK2.2.1]
                    have hP3 := hP2.note (k := 3) (p := K.2.1 (s.1 + 1)) hl2 hK3.2.2.2.2.2.1 (by decide) (fun y hy => Or.inl (Nat.lt_trans (PVr.w (t := s.1) (w := s.2) h y hy) hl1))
                    have hc3 := wrgV_chg (v := v2) (p := nI (K.2.1 (s.1 + 1))) (k := nI 3)
                    generalize wrgV v2 (nI (K.2.1 (s.1 + 1))) (nI 3) = v3 at hP3 hc3 ⊢
                    refine XG.blk tX9_tellPair_ok 44 2 (pc' := 77) (pl' := [some (.ref 0), some (.int (nI i)), some (.int (nI (s.1 + 1))), some (.int (nI j)), some (.int (nI 1))]) (st' := [(.int (nI 4)), (.ref 0)]) (W1 := (mW v3 a b)) (bs := []) rfl rfl rfl ?_
                    refine XG.callV0 eX9_tellPair_77 kl_X9_277 (con_must (d - 1) v3 a b K hT _ hP3 4 (by omega) (by omega) (by omega)) (px_fitS (by omega)) rfl rfl rfl (Nat.le_of_ble_eq_true rfl) (fun r9 W9 hp9 hl9 => ?_)
                    obtain ⟨v4, rfl, hc4, hP4, rfl⟩ := hp9
                    have hvc := (hx12.tr (hc3.mono (S' := [11, 13, 14, 15, 16]) (by decide))).tr (hc4.mono (by decide))
                    have htw : twc S.2.2.2.1 (twN K S s.1) = true := by
                      rw [htn]
                      show (decide (i = j) || hasPr S.2.2.2.1 i j) = true
                      first | (rw [← hmi.2.2 j hj6, (bitT' hmi.2.1 hj6).mp (by rw [← hmi.1]; exact h66)]; simp) | (simp only [show i = j from g44]; simp)
                    have hpt : paT K s S = bd (mstS K 4 (s.1 + 1 + 1, noteS s.2 3 (K.2.1 (s.1 + 1)))) (fun s4 => .inr (s4, va_up S.1 30 (S.1 30 + 1), S.2.1, S.2.2.1, S.2.2.2.1 ++ [twN K S s.1], S.2.2.2.2)) := by
                      unfold paT
                      rw [hr2]
                      show bd (mstS K 4 (_, if twc S.2.2.2.1 (twN K S s.1) = true then _ else _)) _ = _
                      rw [if_pos htw, hf1, hf2]
                      rfl
                    cases hr4 : mstS K 4 (s.1 + 1 + 1, noteS s.2 3 (K.2.1 (s.1 + 1))) with
                    | inl e =>
                      rw [show bd (.inr (s.1 + 1 + 1, noteS s.2 3 (K.2.1 (s.1 + 1)))) (mstS K 4) = .inl e from hr4] at hP4
                      have hx134 : ¬ v4 13 ≤ 0 := by rw [hP4.2.1]; exact Int32.not_le.mpr (n1_pos (by have := hP4.1; omega) (by have := hP4.1; omega))
                      refine XG.blk tX9_tellPair_ok 47 2 (pc' := 84) (pl' := [some (.ref 0), some (.int (nI i)), some (.int (nI (s.1 + 1))), some (.int (nI j)), some (.int (nI 1))]) (st' := [(.int (v4 13))]) (W1 := (mW v4 a b)) (bs := []) rfl rfl rfl ?_
                      refine XG.br eX9_tellPair_84 (P := (v4 13) ≤ 0) (r := []) rfl (tgt := 88) (by decide) (fun h84 => ?_) (fun h84 => ?_)
                      · exfalso
                        first | exact hx13 h19 | exact h19 hx13 | exact hx134 h84 | exact h84 hx134
                      · skip
                        refine XS.vret eX9_tellPair_87 rfl ?_
                        refine ⟨_, _, _, rfl, FrR.v hvc (by decide), ?_, rfl⟩
                        rw [hpt, hr4]
                        exact hP4
                    | inr s4 =>
                      rw [show bd (.inr (s.1 + 1 + 1, noteS s.2 3 (K.2.1 (s.1 + 1)))) (mstS K 4) = .inr s4 from hr4] at hP4
                      obtain ⟨-, -, hs4⟩ := mstS_inr hr4
                      have hx134 : v4 13 ≤ 0 := by rw [hP4.2.2.1]; decide
                      have hsd4 : v4 19 = nI sd := (hvc 19 (by decide)).trans hsd
                      refine XG.blk tX9_tellPair_ok 47 2 (pc' := 84) (pl' := [some (.ref 0), some (.int (nI i)), some (.int (nI (s.1 + 1))), some (.int (nI j)), some (.int (nI 1))]) (st' := [(.int (v4 13))]) (W1 := (mW v4 a b)) (bs := []) rfl rfl rfl ?_
                      refine XG.br eX9_tellPair_84 (P := (v4 13) ≤ 0) (r := []) rfl (tgt := 88) (by decide) (fun h84 => ?_) (fun h84 => ?_)
                      · skip
                        have q34 : (v4 19) = (nI sd) := hsd4
                        have q35 : (nI sd).toNatClampNeg = sd := nI_clamp (by omega)
                        have q36 : ((a 30) sd) = (nI (S.1 30)) := h30
                        have q37 : ((nI (S.1 30)) + (nI 1)) = (nI ((S.1 30) + 1)) := px_eadd rfl rfl
                        refine XG.blk tX9_tellPair_ok 51 10 (pc' := 103) (pl' := [some (.ref 0), some (.int (nI i)), some (.int (nI (s.1 + 1))), some (.int (nI j)), some (.int (nI 1))]) (st' := [(.int (nI 1))]) (W1 := (mW v4 (va_up a 30 (upd (a 30) (v4 19).toNatClampNeg (((a 30) (v4 19).toNatClampNeg) + (nI 1)))) b)) (bs := [px_vb (v4 19) 2, px_vb (v4 19) 2]) rfl rfl (by (try simp only [q34, q35, q36, q37]); exact (px_all (px_vbN (by omega) (by decide)) (px_all (px_vbN (by omega) (by decide)) rfl))) ?_
                        simp only [q34, q35, q36, q37]
                        refine XG.br eX9_tellPair_103 (P := ¬ (nI 1) = 0) (r := []) rfl (tgt := 107) (by decide) (fun h103 => ?_) (fun h103 => ?_)
                        · skip
                          have g103 : ¬ 1 = 0 := (fun z => h103 ((nI_eq (a := 1) (b := 0) (by omega) (by omega)).mpr z))
                          have q38 : (v4 19) = (nI sd) := hsd4
                          have q39 : ((nI 6) * (nI sd)) = (nI (6 * sd)) := px_emul rfl rfl
                          have q40 : ((nI (6 * sd)) + (nI i)) = (nI ((6 * sd) + i)) := px_eadd rfl rfl
                          have q41 : (nI ((6 * sd) + i)).toNatClampNeg = ((6 * sd) + i) := nI_clamp (by omega)
                          have q42 : ((nI (6 * sd)) + (nI j)) = (nI ((6 * sd) + j)) := px_eadd rfl rfl
                          have q43 : (nI ((6 * sd) + j)).toNatClampNeg = ((6 * sd) + j) := nI_clamp (by omega)
                          refine XG.blk tX9_tellPair_ok 63 30 (pc' := 147) (pl' := [some (.ref 0), some (.int (nI i)), some (.int (nI (s.1 + 1))), some (.int (nI j)), some (.int (nI 1))]) (st' := []) (W1 := (mW v4 (va_up (va_up a 30 (upd (a 30) sd (nI ((S.1 30) + 1)))) 29 (upd (upd (a 29) (((nI 6) * (v4 19)) + (nI i)).toNatClampNeg (((a 29) (((nI 6) * (v4 19)) + (nI i)).toNatClampNeg) ||| ((nI 1) <<< ((nI j) &&& 31)))) (((nI 6) * (v4 19)) + (nI j)).toNatClampNeg (((upd (a 29) (((nI 6) * (v4 19)) + (nI i)).toNatClampNeg (((a 29) (((nI 6) * (v4 19)) + (nI i)).toNatClampNeg) ||| ((nI 1) <<< ((nI j) &&& 31)))) (((nI 6) * (v4 19)) + (nI j)).toNatClampNeg) ||| ((nI 1) <<< ((nI i) &&& 31))))) b)) (bs := [px_vb (((nI 6) * (v4 19)) + (nI i)) 12, px_vb (((nI 6) * (v4 19)) + (nI i)) 12, px_vb (((nI 6) * (v4 19)) + (nI j)) 12, px_vb (((nI 6) * (v4 19)) + (nI j)) 12]) rfl rfl (by (try simp only [q38, q39, q40, q41, q42, q43]); exact (px_all (px_vbN (by omega) (by decide)) (px_all (px_vbN (by omega) (by decide)) (px_all (px_vbN (by omega) (by decide)) (px_all (px_vbN (by omega) (by decide)) rfl))))) ?_
                          simp only [q38, q39, q40, q41, q42, q43]
                          refine XS.vret eX9_tellPair_147 rfl ?_
                          refine ⟨_, _, _, rfl, ⟨hvc.mono (by decide), ?_, chg.rf⟩, ?_, rfl⟩
                          · exact ((FrR.set (v := v) (b := b) 30 sd (nI (S.1 30 + 1)) (by rw [show strd 30 = 1 from by decide]; omega) (by rw [show strd 30 = 1 from by decide]; omega)).tr (FrR.set2 29 (6 * sd + i) (6 * sd + j) _ _ (by rw [show strd 29 = 6 from by decide]; omega) (by rw [show strd 29 = 6 from by decide]; omega))).2.1
                          rw [hpt, hr4]
                          refine ⟨hP4, hR.pair hn (by rw [hs4]; show s.1 ≤ _ + 1; first | omega | (rw [hw31]; omega)) hvc (fun k h1 h2 => (if_neg h1).trans (if_neg h2)) (pk_us) ?_⟩
                          rw [htn]
                          exact PrR_some hR.2.2.2.2.2.1 hi6 hj6
                        · exfalso
                          have h103 := Decidable.not_not.mp h103
                          have g103 : 1 = 0 := (nI_eq (a := 1) (b := 0) (by omega) (by omega)).mp h103
                          omega
                      · exfalso
                        first | exact hx13 h19 | exact h19 hx13 | exact hx134 h84 | exact h84 hx134
