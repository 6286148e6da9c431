/-! the reference: a text is read -/
theorem and255 (x : Int32) : x &&& nI 255 = nI ((x &&& nI 255).toBitVec.toNat) ∧ (x &&& nI 255).toBitVec.toNat < 256 := by
  refine ⟨?_, ?_⟩
  · apply Int32.toBitVec_inj.mp
    show _ = BitVec.ofNat 32 _
    rw [BitVec.ofNat_toNat, BitVec.setWidth_eq]
  · rw [Int32.toBitVec_and, BitVec.toNat_and]
    have h : (nI 255).toBitVec.toNat = 255 := by decide
    rw [h]
    exact Nat.lt_of_le_of_lt Nat.and_le_right (by decide)
def bytesOf (f : Nat → Int32) : Nat → Nat := fun j => (vp_nar .byte (f j) &&& nI 255).toBitVec.toNat
/-- the first n, narrowed to bytes -/
def cpB (f h : Nat → Int32) (n : Nat) : Nat → Int32 := fun j => if j < n then vp_nar .byte (f j) else h j
theorem cpB_0 (f h : Nat → Int32) : cpB f h 0 = h := by funext j; unfold cpB; rw [if_neg (Nat.not_lt_zero j)]
theorem cpB_s (f h : Nat → Int32) (n : Nat) : upd (cpB f h n) n (vp_nar .byte (f n)) = cpB f h (n + 1) := by
  funext j; simp only [cpB, upd]
  by_cases e : j = n
  · subst e; rw [if_pos rfl, if_pos (Nat.lt_succ_self j)]
  · rw [if_neg e]
    by_cases h2 : j < n
    · rw [if_pos h2, if_pos (by omega)]
    · rw [if_neg h2, if_neg (by omega)]
def TxR (S : SD) (lv : Nat) (a : Nat → Nat → Int32) : Prop :=
  (∀ k, k ∈ [23, 24, 30, 31, 35, 36, 37] → a k lv = nI (S.1 k))
  ∧ (∀ i, i < S.1 24 → ∀ k, k ∈ [25, 26, 27, 28] → a k (6 * lv + i) = nI (S.2.1 k i))
  ∧ (∀ i, i < S.1 31 → ∀ k, k ∈ [32, 33, 34] → a k (5 * lv + i) = nI (S.2.1 k i))
  ∧ PrR S.2.2.2.1 (a 29) lv ∧ ∃ B Q, B ≤ 130 * lv + 130 ∧ Q ≤ 420 * lv + 420 ∧ ∀ k, k < 3 → LwR a lv B Q (S.2.2.2.2 k) (3 * lv + k)
theorem RD.tx {S : SD} {sd t : Nat} {v : Nat → Int32} {a : Nat → Nat → Int32} {b : Nat → Nat → Int64} (h : RD S sd t v a b) (ht : t ≤ 400) : TxR S sd a := by
  obtain ⟨h1, h2, h3, h4, h5, h6, ⟨B, Q, c1, c2, c3, c4, c5, c6, c7⟩, h8⟩ := h
  exact ⟨h1, h3, h4, h6, B, Q, by omega, by omega, c7⟩
def txA : List Nat := [23, 24, 25, 26, 27, 28, 29, 30, 31, 32, 33, 34, 35, 36, 37, 38, 39, 41, 42, 43, 44, 45, 47, 48]
/-- a text stays where nothing of its side is written -/
theorem TxR.fr {S : SD} {lv : Nat} {a a' : Nat → Nat → Int32} (h : TxR S lv a) (hs : shpS S) (hf : ∀ k, k ∈ txA → ∀ j, strd k * lv ≤ j → j < strd k * lv + strd k → a' k j = a k j) : TxR S lv a' := by
  obtain ⟨h1, h3, h4, ⟨m, h6⟩, B, Q, hB, hQ, h7⟩ := h
  refine ⟨fun k hk => ?_, fun i hi k hk => ?_, fun i hi k hk => ?_, ⟨m, fun x hx => ?_⟩, B, Q, hB, hQ, fun k hk => ?_⟩
  · rw [hf k (by revert hk; simp only [txA, List.mem_cons, List.not_mem_nil, or_false]; omega) lv (by rw [show strd k = 1 by revert k; simp only [List.mem_cons, List.not_mem_nil, or_false]; rintro k (rfl | rfl | rfl | rfl | rfl | rfl | rfl) <;> decide]; omega) (by rw [show strd k = 1 by revert k; simp only [List.mem_cons, List.not_mem_nil, or_false]; rintro k (rfl | rfl | rfl | rfl | rfl | rfl | rfl) <;> decide]; omega)]
    exact h1 k hk
  · have hs6 : strd k = 6 := by revert k; simp only [List.mem_cons, List.not_mem_nil, or_false]; rintro k (rfl | rfl | rfl | rfl) <;> decide
    have := hs.1
    rw [hf k (by revert hk; simp only [txA, List.mem_cons, List.not_mem_nil, or_false]; omega) _ (by rw [hs6]; omega) (by rw [hs6]; omega)]
    exact h3 i hi k hk
  · have hs6 : strd k = 5 := by revert k; simp only [List.mem_cons, List.not_mem_nil, or_false]; rintro k (rfl | rfl | rfl) <;> decide
    have := hs.2.1
    rw [hf k (by revert hk; simp only [txA, List.mem_cons, List.not_mem_nil, or_false]; omega) _ (by rw [hs6]; omega) (by rw [hs6]; omega)]
    exact h4 i hi k hk
  · rw [hf 29 (by decide) _ (by rw [show strd 29 = 6 by decide]; omega) (by rw [show strd 29 = 6 by decide]; omega)]
    exact h6 x hx
  · have e38 : ∀ j, j < 3 → a' 38 (3 * lv + j) = a 38 (3 * lv + j) := fun j hj => hf 38 (by decide) _ (by rw [show strd 38 = 3 by decide]; omega) (by rw [show strd 38 = 3 by decide]; omega)
    have e39 : ∀ j, j < 3 → a' 39 (3 * lv + j) = a 39 (3 * lv + j) := fun j hj => hf 39 (by decide) _ (by rw [show strd 39 = 3 by decide]; omega) (by rw [show strd 39 = 3 by decide]; omega)
    have h9 := h7 k hk
    cases hl : S.2.2.2.2 k with
    | none => rw [hl] at h9; exact ⟨by rw [e38 k hk]; exact h9.1, by rw [e39 k hk]; exact h9.2⟩
    | some bs =>
      rw [hl] at h9
      obtain ⟨g0, f, g1, g2, g3, g4, g5⟩ := h9
      refine ⟨g0, f, g1, g2, by rw [e38 k hk]; exact g3, by rw [e39 k hk]; exact g4, fun i br hi => ?_⟩
      have hil := (List.getElem?_eq_some_iff.mp hi).1
      have hb := g5 i br hi
      have eb : ∀ z, z ∈ [41, 42, 43, 44, 45] → a' z (f + i) = a z (f + i) := fun z hz => hf z (by revert hz; simp only [txA, List.mem_cons, List.not_mem_nil, or_false]; omega) _ (by rw [show strd z = 130 by revert z; simp only [List.mem_cons, List.not_mem_nil, or_false]; rintro z (rfl | rfl | rfl | rfl | rfl) <;> decide]; omega) (by rw [show strd z = 130 by revert z; simp only [List.mem_cons, List.not_mem_nil, or_false]; rintro z (rfl | rfl | rfl | rfl | rfl) <;> decide]; omega)
      have es : ∀ q c, 420 * lv ≤ q → q + c.length ≤ Q → segR a q c → segR a' q c := by
        intro q c hq1 hq2 hsg j x hj
        have hjl := (List.getElem?_eq_some_iff.mp hj).1
        rw [hf 47 (by decide) _ (by rw [show strd 47 = 420 by decide]; omega) (by rw [show strd 47 = 420 by decide]; omega), hf 48 (by decide) _ (by rw [show strd 48 = 420 by decide]; omega) (by rw [show strd 48 = 420 by decide]; omega)]
        exact hsg j x hj
      unfold brR at hb ⊢
      cases hbr : br.1 with
      | none =>
        rw [hbr] at hb
        obtain ⟨q, q1, q2, q3, q4, q5, q6⟩ := hb
        exact ⟨q, q1, q2, by rw [eb 41 (by decide)]; exact q3, by rw [eb 44 (by decide)]; exact q4, by rw [eb 45 (by decide)]; exact q5, es _ _ q1 q2 q6⟩
      | some cc =>
        rw [hbr] at hb
        obtain ⟨q, q1, q2, q3, q4, q5, q6, q7, q8, q9, q10⟩ := hb
        exact ⟨q, q1, q2, by rw [eb 41 (by decide)]; exact q3, by rw [eb 42 (by decide)]; exact q4, by rw [eb 43 (by decide)]; exact q5, by rw [eb 44 (by decide)]; exact q6, by rw [eb 45 (by decide)]; exact q7, es _ _ q1 (by omega) q8, es _ _ (by omega) (by omega) q9, es _ _ (by omega) q2 q10⟩
theorem TxR.eq {S : SD} {lv : Nat} {a a' : Nat → Nat → Int32} (h : TxR S lv a) (hf : ∀ k, k ∈ txA → a' k = a k) : TxR S lv a' := by
  obtain ⟨h1, h3, h4, h6, B, Q, hB, hQ, h7⟩ := h
  refine ⟨fun k hk => ?_, fun i hi k hk => ?_, fun i hi k hk => ?_, ?_, B, Q, hB, hQ, fun k hk => LwR_chg (fun z hz => hf z (by revert hz; simp only [txA, List.mem_cons, List.not_mem_nil, or_false]; omega)) (h7 k hk)⟩
  · rw [hf k (by revert hk; simp only [txA, List.mem_cons, List.not_mem_nil, or_false]; omega)]; exact h1 k hk
  · rw [hf k (by revert hk; simp only [txA, List.mem_cons, List.not_mem_nil, or_false]; omega)]; exact h3 i hi k hk
  · rw [hf k (by revert hk; simp only [txA, List.mem_cons, List.not_mem_nil, or_false]; omega)]; exact h4 i hi k hk
  · rw [hf 29 (by decide)]; exact h6
theorem TxR.mi {S : SD} {lv : Nat} {v : Nat → Int32} {a : Nat → Nat → Int32} (h : TxR S lv a) (hs : shpS S) (hr : rngS S) (h18 : v 18 = nI lv) (hlv : lv < 2) : MI v a lv (S.1 23) (S.1 24) (S.1 31) := ⟨h18, hlv, h.1 23 (by decide), hr.1.1, hr.1.2, h.1 24 (by decide), hs.1, h.1 31 (by decide), hs.2.1⟩
theorem TxR.w3 {S : SD} {lv : Nat} {a : Nat → Nat → Int32} (h : TxR S lv a) (hs : shpS S) (hlv : lv < 2) : wf3 a lv := by
  obtain ⟨h1, h3, h4, h6, B, Q, hB, hQ, h7⟩ := h
  intro k hk
  exact LwR_wf (h7 k hk) (by omega) (by omega) (fun bs hb => (hs.2.2.2.2.2 k bs hb).1)
theorem TxR.law {S : SD} {lv : Nat} {a : Nat → Nat → Int32} (h : TxR S lv a) (hs : shpS S) (hlv : lv < 2) {k : Nat} (hk : k < 3) (vars : Nat → Int32) (plain : Int32) : lawF a (3 * lv + k) vars plain = lawO vars (S.2.2.2.2 k) plain := by
  obtain ⟨h1, h3, h4, h6, B, Q, hB, hQ, h7⟩ := h
  exact lawF_ev (h7 k hk) (by omega) (by omega) (fun bs hb => (hs.2.2.2.2.2 k bs hb).1) vars plain
theorem lex_sm (B : Nat → Nat) (n : Nat) : smV (lexK B n) := by
  intro t
  show (if posK B n t < n then (tkA B n (posK B n t)).2.1 else 0) < 10000
  split
  · rename_i h; exact tkA_val h
  · decide
def oW (K : TKS) (q : PT × SD) (i : Nat) : Option PE := if (List.range i).any (fun i => decide (q.2.1 23 ≤ q.2.2.1 28 i)) = true then noteS q.1.2 5 (K.2.1 q.1.1) else q.1.2
theorem oW_s (K : TKS) (q : PT × SD) (i : Nat) : oW K q (i + 1) = if q.2.1 23 ≤ q.2.2.1 28 i then noteS (oW K q i) 5 (K.2.1 q.1.1) else oW K q i := by
  unfold oW
  rw [List.range_succ, List.any_append]
  by_cases h1 : (List.range i).any (fun i => decide (q.2.1 23 ≤ q.2.2.1 28 i)) = true
  · rw [h1, if_pos (by simp), if_pos rfl, note2]; split <;> rfl
  · have h2 : (List.range i).any (fun i => decide (q.2.1 23 ≤ q.2.2.1 28 i)) = false := by simpa using h1
    rw [h2, Bool.false_or, if_neg (show ¬ false = true by decide)]
    by_cases h3 : q.2.1 23 ≤ q.2.2.1 28 i
    · rw [if_pos h3, if_pos (by simp [h3])]
    · rw [if_neg h3, if_neg (by simp [h3])]
def wR0 (w : Option PE) (v : Nat → Int32) : Prop := match w with
  | none => v 15 = nI 0
  | some x => v 15 = nI x.1 ∧ v 16 = nI x.2 ∧ 3 ≤ x.1 ∧ x.1 ≤ 5
theorem wR0.wr {w : Option PE} {v : Nat → Int32} {p : Nat} (h : wR0 w v) (h13 : v 13 = nI 0) (hp : p ≤ 2000) (hw : ∀ x, w = some x → x.2 ≤ p) : wR0 (noteS w 5 p) (wrgV v (nI p) (nI 5)) := by
  cases w with
  | none => rw [wrgV_none h13 h]; exact ⟨rfl, rfl, by show 3 ≤ 5; decide, by show 5 ≤ 5; decide⟩
  | some x =>
    rw [wrgV_some (x1 := x.1) (x2 := x.2) h.1 h.2.1 ⟨h.2.2.1, h.2.2.2⟩ hp (by decide) (by have := hw x rfl; have := h.2.2.2; omega)]
    exact h
theorem oW_le {K : TKS} {q : PT × SD} {i : Nat} (h : ∀ x, q.1.2 = some x → x.2 < K.2.1 q.1.1) : ∀ x, oW K q i = some x → x.2 ≤ K.2.1 q.1.1 := by
  intro x hx
  unfold oW at hx
  split at hx
  · cases hq : q.1.2 with
    | none => rw [hq] at hx; cases hx; exact Nat.le_refl _
    | some y => rw [hq] at hx; cases hx; exact Nat.le_of_lt (h _ hq)
  · exact Nat.le_of_lt (h x hx)
theorem PVr.w0 {K : TKS} {s : PT} {v : Nat → Int32} (h : PVr K (.inr s) v) : wR0 s.2 v := by
  have h5 := h.2.2.2.2
  cases hs : s.2 with
  | none => rw [hs] at h5; exact h5
  | some x => rw [hs] at h5; exact ⟨h5.1, h5.2.1, h5.2.2.1, h5.2.2.2.1⟩
abbrev rdV : List Nat := [2, 4, 10, 11, 12, 13, 14, 15, 16, 17, 19, 20, 40, 46, 50]
def rdFr (sd : Nat) (a a' : Nat → Nat → Int32) : Prop := ∀ k, k ∉ [3, 5, 6, 7, 22, 49] → ∀ j, ¬ (strd k * sd ≤ j ∧ j < strd k * sd + strd k) → a' k j = a k j
abbrev rdPost (K : TKS) (sd : Nat) (v : Nat → Int32) (a : Nat → Nat → Int32) (b : Nat → Nat → Int64) : Option Value → px_W → Prop := fun r W' => ∃ v' a' b', W' = mW v' a' b' ∧ v' 2 = nI 0 ∧ chg [8, 21] b b' ∧ ((∃ e, readS K = .inl e ∧ r = some (.int (nI e.1)) ∧ v' 17 = nI e.2 ∧ chg rdV v v' ∧ rdFr sd a a') ∨ (∃ S, readS K = .inr S ∧ r = some (.int (nI 0)) ∧ v' 17 = -1 ∧ v' 18 = nI sd ∧ v' 61 = nI 0 ∧ v' 69 = nI 0 ∧ TxR S sd a' ∧ a' 54 = bgR a' sd (S.1 24) ∧ ∀ j, j < 3 → a' 73 j = nI 0))
set_option maxHeartbeats 400000 in
theorem read_go (d : Nat) (hd : 8 ≤ d) (K : TKS) (sd : Nat) (hsd2 : sd < 2) (post : Option Value → px_W → Prop) (v0 : Nat → Int32) (a0 : Nat → Nat → Int32) (b0 : Nat → Nat → Int64) (h19 : v0 19 = nI sd) (hT : Tok K a0 b0) (hV : smV K) (pl : px_L) (R : PE ⊕ (PT × SD)) (hF : ∀ v a b e, R = .inl e → PVr K (.inl e) v → FrR sd v0 v a0 a b0 b → XG mX9_read (px_gS d post) 0 0 134 [some (.ref 0), none] [] (mW v a b)) (hO : ∀ v a b q, R = .inr q → PVr K (.inr q.1) v → RD q.2 sd q.1.1 v a b → invS q → K.1 q.1.1 = 0 → FrR sd v0 v a0 a b0 b → XG mX9_read (px_gS d post) 0 0 134 [some (.ref 0), none] [] (mW v a b)) : ∀ n q (v : Nat → Int32) (a : Nat → Nat → Int32) (b : Nat → Nat → Int64), txtS K n q = R → PVr K (.inr q.1) v → RD q.2 sd q.1.1 v a b → invS q → 401 ≤ q.1.1 + 3 * n → FrR sd v0 v a0 a b0 b → XG mX9_read (px_gS d post) 0 0 112 [some (.ref 0), none] [] (mW v a b) := by
  intro n
  induction n with
  | zero => intro q v a b hR h hD hI hn; have := hI.1; omega
  | succ n ih =>
    intro q v a b hR h hD hI hn hf
    have hx13 : v 13 = 0 := h.2.2.1
    have hT9 := hf.tok hT
    have h19v : v 19 = nI sd := (hf.1 19 (by decide)).trans h19
    unfold txtS at hR
    by_cases hk : K.1 q.1.1 = 0
    · rw [if_pos hk] at hR
      refine XG.blk tX9_read_ok 62 2 (pc' := 116) (pl' := [some (.ref 0), none]) (st' := [(.int (v 13))]) (W1 := (mW v a b)) (bs := []) rfl rfl rfl ?_
      refine XG.br eX9_read_116 (P := ¬ (v 13) = 0) (r := []) rfl (tgt := 134) (by decide) (fun h116 => ?_) (fun h116 => ?_)
      · exfalso
        exact h116 hx13
      · skip
        have h116 := Decidable.not_not.mp h116
        refine XG.blk tX9_read_ok 65 2 (pc' := 121) (pl' := [some (.ref 0), none]) (st' := [(.int (nI 0)), (.ref 0)]) (W1 := (mW v a b)) (bs := []) rfl rfl rfl ?_
        refine XG.callV0 eX9_read_121 kl_X9_233 (con_isT (d - 1) v a b K hT9 _ h 0 hk) (px_fitS (by omega)) rfl rfl rfl (Nat.le_of_ble_eq_true rfl) (fun r9 W9 hp9 hl9 => ?_)
        obtain ⟨rfl, rfl⟩ := hp9
        refine XG.br eX9_read_124 (P := ¬ (nI 1) = 0) (r := []) rfl (tgt := 134) (by decide) (fun h124 => ?_) (fun h124 => ?_)
        · skip
          have g124 : ¬ 1 = 0 := (fun z => h124 ((nI_eq (a := 1) (b := 0) (by omega) (by omega)).mpr z))
          exact hO v a b q hR.symm h hD hI hk hf
        · exfalso
          have h124 := Decidable.not_not.mp h124
          have g124 : 1 = 0 := (nI_eq (a := 1) (b := 0) (by omega) (by omega)).mp h124
          omega
    · rw [if_neg hk] at hR
      refine XG.blk tX9_read_ok 62 2 (pc' := 116) (pl' := [some (.ref 0), none]) (st' := [(.int (v 13))]) (W1 := (mW v a b)) (bs := []) rfl rfl rfl ?_
      refine XG.br eX9_read_116 (P := ¬ (v 13) = 0) (r := []) rfl (tgt := 134) (by decide) (fun h116 => ?_) (fun h116 => ?_)
      · exfalso
        first | exact h116 hx13 | exact hx131 h116
      · skip
        have h116 := Decidable.not_not.mp h116
        refine XG.blk tX9_read_ok 65 2 (pc' := 121) (pl' := [some (.ref 0), none]) (st' := [(.int (nI 0)), (.ref 0)]) (W1 := (mW v a b)) (bs := []) rfl rfl rfl ?_
        refine XG.callV0 eX9_read_121 kl_X9_233 (con_isF (d - 1) v a b K hT9 _ h 0 hk (by decide)) (px_fitS (by omega)) rfl rfl rfl (Nat.le_of_ble_eq_true rfl) (fun r9 W9 hp9 hl9 => ?_)
        obtain ⟨rfl, rfl⟩ := hp9
        refine XG.br eX9_read_124 (P := ¬ (nI 0) = 0) (r := []) rfl (tgt := 134) (by decide) (fun h124 => ?_) (fun h124 => ?_)
        · exfalso
          have g124 : ¬ 0 = 0 := (fun z => h124 ((nI_eq (a := 0) (b := 0) (by omega) (by omega)).mpr z))
          omega
        · skip
          have h124 := Decidable.not_not.mp h124
          have g124 : 0 = 0 := (nI_eq (a := 0) (b := 0) (by omega) (by omega)).mp h124
          refine XG.blk tX9_read_ok 69 1 (pc' := 128) (pl' := [some (.ref 0), none]) (st' := [(.ref 0)]) (W1 := (mW v a b)) (bs := []) rfl rfl rfl ?_
          refine XG.callV0 eX9_read_128 kl_X9_260 (con_tellOne (d - 1) v a b K hT9 sd h19v hsd2 q.2 q.1 h hk hD (by omega)) (px_fitS (by omega)) rfl rfl rfl (Nat.le_of_ble_eq_true rfl) (fun r9 W9 hp9 hl9 => ?_)
          obtain ⟨v1, a1, b1, rfl, hf1, hQ1, rfl⟩ := hp9
          cases hr : tellS K q with
          | inl e =>
            have hQ1 : RQ K sd (tellS K q) v1 a1 b1 := hQ1
            rw [hr] at hQ1 hR
            have hQ1 : PVr K (.inl e) v1 := hQ1
            have hx131 : ¬ v1 13 = 0 := by rw [hQ1.2.1]; exact nI_nz (by have := hQ1.1; omega) (by have := hQ1.1; omega)
            refine XG.goto eX9_read_131 (tgt := 112) (by decide) ?_
            refine XG.blk tX9_read_ok 62 2 (pc' := 116) (pl' := [some (.ref 0), none]) (st' := [(.int (v1 13))]) (W1 := (mW v1 a1 b1)) (bs := []) rfl rfl rfl ?_
            refine XG.br eX9_read_116 (P := ¬ (v1 13) = 0) (r := []) rfl (tgt := 134) (by decide) (fun h116 => ?_) (fun h116 => ?_)
            · skip
              exact hF v1 a1 b1 e hR.symm hQ1 (hf.tr hf1)
            · exfalso
              have h116 := Decidable.not_not.mp h116
              first | exact h116 hx13 | exact hx131 h116
          | inr q1 =>
            have hQ1 : RQ K sd (tellS K q) v1 a1 b1 := hQ1
            rw [hr] at hQ1 hR
            have hI1 := tell_inv hV hr hI
            refine XG.goto eX9_read_131 (tgt := 112) (by decide) ?_
            exact ih q1 v1 a1 b1 hR hQ1.1 hQ1.2 hI1.1 (by omega) (hf.tr hf1)
