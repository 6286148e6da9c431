/-! the reference: the text is cut -/
def StK (K : TKS) (a : Nat → Nat → Int32) (b : Nat → Nat → Int64) (k : Nat) : Prop := ∀ j, j < k → a 5 j = nI (K.1 j) ∧ a 6 j = nI (K.2.1 j) ∧ a 7 j = nI (K.2.2.1 j) ∧ (K.1 j = 1 → b 8 j = lN (enc 27 (K.2.2.2 j)))
theorem StK_s {K : TKS} {a a' : Nat → Nat → Int32} {b b' : Nat → Nat → Int64} {k : Nat} (h : StK K a b k) {x y z : Int32} {m : Int64} (h5 : a' 5 = upd (a 5) k x) (h6 : a' 6 = upd (a 6) k y) (h7 : a' 7 = upd (a 7) k z) (h8 : b' 8 = vp_updL (b 8) k m) (e5 : x = nI (K.1 k)) (e6 : y = nI (K.2.1 k)) (e7 : z = nI (K.2.2.1 k)) (e8 : K.1 k = 1 → m = lN (enc 27 (K.2.2.2 k))) : StK K a' b' (k + 1) := by
  intro j hj
  rw [h5, h6, h7, h8]
  by_cases e : j = k
  · subst e
    rw [pk_us, pk_us, pk_us]
    refine ⟨e5, e6, e7, fun h1 => ?_⟩
    rw [← e8 h1]; unfold vp_updL; exact if_pos rfl
  · rw [pk_un e, pk_un e, pk_un e]
    have h1 := h j (by omega)
    refine ⟨h1.1, h1.2.1, h1.2.2.1, fun h2 => ?_⟩
    rw [← h1.2.2.2 h2]; unfold vp_updL; exact if_neg e
theorem con_byteV (d : Nat) (v : Nat → Int32) (a : Nat → Nat → Int32) (b : Nat → Nat → Int64) (B : Nat → Nat) (n : Nat) (hB : LBy B n v a) (i : Nat) (hi : i < 10000) (x : Nat) (hx : atB B n i = x) : Con mX9_byteAt d [.ref 0, .int (nI i)] (mW v a b) (fun r W' => W' = mW v a b ∧ r = some (.int (nI x))) := by
  have h1 := con_byteAt d v a b B n hB i hi
  rw [hx] at h1
  exact h1
theorem con_letV (d x : Nat) (hx : x < 2 ^ 31) (y : Nat) (hy : (if ltr x then (1 : Int32) else 0) = nI y) : Con mX9_isLetter d [.int (nI x)] [] (fun r _ => r = some (.int (nI y))) := by
  have h1 := con_isLetter d x hx
  rw [hy] at h1
  exact h1
theorem con_digV (d x : Nat) (hx : x < 2 ^ 31) (y : Nat) (hy : (if dgt x then (1 : Int32) else 0) = nI y) : Con mX9_isDigit d [.int (nI x)] [] (fun r _ => r = some (.int (nI y))) := by
  have h1 := con_isDigit d x hx
  rw [hy] at h1
  exact h1
theorem ltT {P : Prop} [Decidable P] (h : P) : (if P then (1 : Int32) else 0) = nI 1 := by rw [if_pos h]; rfl
theorem ltF {P : Prop} [Decidable P] (h : ¬ P) : (if P then (1 : Int32) else 0) = nI 0 := by rw [if_neg h]; rfl
theorem atB_in {B : Nat → Nat} {n i : Nat} (h : i < n) : atB B n i = B i := if_pos h
theorem lets_s (B : Nat → Nat) (i q : Nat) : lets B i (q + 1) = lets B i q ++ [B (i + q) - 96] := by unfold lets; rw [List.range_succ, List.map_append]; rfl
theorem wds_v : ∀ q : Fin 22, vNm (wds.getD q.val []) := by
  intro q
  refine ⟨?_, ?_⟩
  · revert q; decide
  · revert q; decide
def CInv (B : Nat → Nat) (n k i : Nat) (v : Nat → Int32) (a : Nat → Nat → Int32) (b : Nat → Nat → Int64) : Prop := v 10 = nI k ∧ k ≤ 401 ∧ i ≤ n ∧ skp B n i = posK B n k ∧ (∀ j, j < k → posK B n j < n) ∧ StK (lexK B n) a b k
abbrev cutPost (B : Nat → Nat) (n : Nat) (v0 : Nat → Int32) (a0 : Nat → Nat → Int32) (b0 : Nat → Nat → Int64) : Option Value → px_W → Prop := fun r W' => ∃ v' a' b', W' = mW v' a' b' ∧ chg [10] v0 v' ∧ (∀ q, q ∉ [5, 6, 7] → a' q = a0 q) ∧ chg [8] b0 b' ∧ Tok (lexK B n) a' b' ∧ r = none
theorem lexK_0 {B : Nat → Nat} {n j : Nat} (h : (lexK B n).1 j ≠ 0) : posK B n j < n := by
  rcases Nat.lt_or_ge (posK B n j) n with h1 | h1
  · exact h1
  · exact absurd (if_neg (by omega)) h
theorem CTok {B : Nat → Nat} {n k : Nat} {a : Nat → Nat → Int32} {b : Nat → Nat → Int64} (hn : n ≤ 2000) (h : StK (lexK B n) a b k) (hk : k = 401 ∨ (1 ≤ k ∧ (lexK B n).1 (k - 1) = 0)) : Tok (lexK B n) a b := by
  intro t ht hok
  have htk : t < k := by
    rcases hk with hk | ⟨h1, h2⟩
    · omega
    · rcases Nat.lt_or_ge t k with h3 | h3
      · exact h3
      · exact absurd h2 (hok (k - 1) (by omega))
  obtain ⟨h5, h6, h7, h8⟩ := h t htk
  refine ⟨h5, h6, h7, fun h1 => ⟨h8 h1, ?_⟩, ?_, Nat.le_trans (pos_le B n t) hn, ?_, fun h0 => pos_lt (lexK_0 h0)⟩
  · have hp := lexK_0 (B := B) (n := n) (j := t) (by rw [h1]; decide)
    refine tkA_nm hp ?_
    have h9 : (if posK B n t < n then (tkA B n (posK B n t)).1 else 0) = 1 := h1
    rw [if_pos hp] at h9; exact h9
  · show (if posK B n t < n then (tkA B n (posK B n t)).1 else 0) < 100
    split
    · have := tkA_kind B n (posK B n t); omega
    · decide
  · show (if posK B n t < n then (tkA B n (posK B n t)).2.1 else 0) < 10000
    split
    · rename_i h9; exact tkA_val h9
    · decide
/-- behind a token -/
theorem CInv_tok {B : Nat → Nat} {n k i e : Nat} {v v' : Nat → Int32} {a a' : Nat → Nat → Int32} {b b' : Nat → Nat → Int64} (h : CInv B n k i v a b) (hi : i < n) (hb : ¬ blk (B i)) (hk : k ≤ 400) {x y z : Int32} {m : Int64} (h10 : v' 10 = nI (k + 1)) (h5 : a' 5 = upd (a 5) k x) (h6 : a' 6 = upd (a 6) k y) (h7 : a' 7 = upd (a 7) k z) (h8 : b' 8 = vp_updL (b 8) k m) (e5 : x = nI (tkA B n i).1) (e6 : y = nI i) (e7 : z = nI (tkA B n i).2.1) (e8 : (tkA B n i).1 = 1 → m = lN (enc 27 (tkA B n i).2.2.1)) (he : (tkA B n i).2.2.2 = e) : CInv B n (k + 1) e v' a' b' := by
  obtain ⟨c1, c2, c3, c4, c5, c6⟩ := h
  have hp : posK B n k = i := by rw [← c4]; exact skp_n (fun z => hb z.2)
  have hpn : posK B n k < n := by omega
  refine ⟨h10, by omega, by rw [← he]; exact (tkA_end hi).2, ?_, ?_, ?_⟩
  · show _ = (if posK B n k < n then _ else _)
    rw [if_pos hpn, hp, he]
  · intro j hj
    by_cases ej : j = k
    · rw [ej]; exact hpn
    · exact c5 j (by omega)
  · refine StK_s c6 h5 h6 h7 h8 ?_ ?_ ?_ ?_
    · rw [e5]; congr 1; show _ = (if posK B n k < n then _ else _); rw [if_pos hpn, hp]
    · rw [e6]; congr 1; exact hp.symm
    · rw [e7]; congr 1; show _ = (if posK B n k < n then _ else _); rw [if_pos hpn, hp]
    · intro h1
      have h1 : (if posK B n k < n then (tkA B n (posK B n k)).1 else 0) = 1 := h1
      rw [if_pos hpn, hp] at h1
      rw [e8 h1]; show _ = lN (enc 27 (tkA B n (posK B n k)).2.2.1); rw [hp]
set_option maxHeartbeats 1000000 in
theorem cut_go (d : Nat) (hd : 3 ≤ d) (B : Nat → Nat) (n : Nat) (v0 : Nat → Int32) (a0 : Nat → Nat → Int32) (b0 : Nat → Nat → Int64) (hB0 : LBy B n v0 a0) (hK0 : ∀ q, q < 22 → b0 9 q = lN (enc 27 (wds.getD q []))) : ∀ m, ∀ (k i : Nat) (v : Nat → Int32) (a : Nat → Nat → Int32) (b : Nat → Nat → Int64), n < i + m → CInv B n k i v a b → chg [10] v0 v → (∀ q, q ∉ [5, 6, 7] → a q = a0 q) → chg [8] b0 b → XG mX9_cut (px_gS d (cutPost B n v0 a0 b0)) 0 0 7 [some (.ref 0), some (.int (nI i)), none, none, none, none, none, none] [] (mW v a b) := by
  have hn := hB0.2.1
  intro m
  induction m with
  | zero => intro k i v a b hm hC; have := hC.2.2.1; omega
  | succ m ih =>
    intro k i v a b hm hC hv ha hb
    obtain ⟨h10, hk, hin, hsk, hps, hst⟩ := id hC
    have hB : LBy B n v a := ⟨(hv 4 (by decide)).trans hB0.1, hB0.2.1, by rw [ha 3 (by decide)]; exact hB0.2.2⟩
    have hKy : ∀ q, q < 22 → b 9 q = lN (enc 27 (wds.getD q [])) := by rw [hb 9 (by decide)]; exact hK0
    have h4 := hB.1
    by_cases hk4 : k ≤ 400
    · by_cases hi : i < n
      · have eBi : atB B n i = B i := if_pos hi
        have hB256 := (hB.2.2 i hi).2
        by_cases hbk : blk (B i)
        · rcases (show B i = 9 ∨ B i = 10 ∨ B i = 13 ∨ B i = 32 from hbk) with hc | hc | hc | hc
          · skip
            have q1 : (v 10) = (nI k) := h10
            refine XG.blk tX9_cut_ok 5 3 (pc' := 14) (pl' := [some (.ref 0), some (.int (nI i)), none, none, none, none, none, none]) (st' := [(.int (nI 400)), (.int (v 10))]) (W1 := (mW v a b)) (bs := []) rfl rfl rfl ?_
            simp only [q1]
            refine XG.br eX9_cut_14 (P := (nI 400) < (nI k)) (r := []) rfl (tgt := 294) (by decide) (fun h14 => ?_) (fun h14 => ?_)
            · exfalso
              have g14 : 400 < k := (nI_ltI (a := 400) (b := k) (by omega) (by omega)).mp h14
              omega
            · skip
              have g14 : ¬ 400 < k := (fun z => h14 ((nI_ltI (a := 400) (b := k) (by omega) (by omega)).mpr z))
              refine XG.blk tX9_cut_ok 9 2 (pc' := 19) (pl' := [some (.ref 0), some (.int (nI i)), none, none, none, none, none, none]) (st' := [(.int (nI i)), (.ref 0)]) (W1 := (mW v a b)) (bs := []) rfl rfl rfl ?_
              refine XG.callV0 eX9_cut_19 kl_X9_196 (con_byteV (d - 1) v a b B n hB i (by omega) 9 (by rw [eBi, hc])) (px_fitS (by omega)) rfl rfl rfl (Nat.le_of_ble_eq_true rfl) (fun r9 W9 hp9 hl9 => ?_)
              obtain ⟨rfl, rfl⟩ := hp9
              have q2 : (v 4) = (nI n) := h4
              refine XG.blk tX9_cut_ok 12 4 (pc' := 28) (pl' := [some (.ref 0), some (.int (nI i)), some (.int (nI 9)), none, none, none, none, none]) (st' := [(.int (v 4)), (.int (nI i))]) (W1 := (mW v a b)) (bs := []) rfl rfl rfl ?_
              simp only [q2]
              refine XG.br eX9_cut_28 (P := (nI i) < (nI n)) (r := []) rfl (tgt := 43) (by decide) (fun h28 => ?_) (fun h28 => ?_)
              · skip
                have g28 : i < n := (nI_ltI (a := i) (b := n) (by omega) (by omega)).mp h28
                refine XG.blk tX9_cut_ok 25 2 (pc' := 46) (pl' := [some (.ref 0), some (.int (nI i)), some (.int (nI 9)), none, none, none, none, none]) (st' := [(.int (nI 9)), (.int (nI 9))]) (W1 := (mW v a b)) (bs := []) rfl rfl rfl ?_
                refine XG.br eX9_cut_46 (P := (nI 9) = (nI 9)) (r := []) rfl (tgt := 67) (by decide) (fun h46 => ?_) (fun h46 => ?_)
                · skip
                  have g46 : 9 = 9 := (nI_eq (a := 9) (b := 9) (by omega) (by omega)).mp h46
                  have q3 : ((nI i) + (nI 1)) = (nI (i + 1)) := px_eadd rfl rfl
                  refine XG.blk tX9_cut_ok 37 1 (pc' := 70) (pl' := [some (.ref 0), some (.int ((nI i) + (nI 1))), some (.int (nI 9)), none, none, none, none, none]) (st' := []) (W1 := (mW v a b)) (bs := []) rfl rfl rfl ?_
                  simp only [q3]
                  refine XG.goto eX9_cut_70 (tgt := 291) (by decide) ?_
                  refine XG.goto eX9_cut_291 (tgt := 7) (by decide) ?_
                  refine XG.weak (pl' := [some (.ref 0), some (.int (nI (i + 1))), none, none, none, none, none, none]) ⟨rfl, rfl, trivial⟩ ?_
                  exact ih k (i + 1) v a b (by omega) ⟨h10, hk, by omega, by rw [← skp_b hi (by rw [hc]; decide)]; exact hsk, hps, hst⟩ hv ha hb
                · exfalso
                  have g46 : ¬ 9 = 9 := (fun z => h46 ((nI_eq (a := 9) (b := 9) (by omega) (by omega)).mpr z))
                  omega
              · exfalso
                have g28 : ¬ i < n := (fun z => h28 ((nI_ltI (a := i) (b := n) (by omega) (by omega)).mpr z))
                omega
          · skip
            have q1 : (v 10) = (nI k) := h10
            refine XG.blk tX9_cut_ok 5 3 (pc' := 14) (pl' := [some (.ref 0), some (.int (nI i)), none, none, none, none, none, none]) (st' := [(.int (nI 400)), (.int (v 10))]) (W1 := (mW v a b)) (bs := []) rfl rfl rfl ?_
            simp only [q1]
            refine XG.br eX9_cut_14 (P := (nI 400) < (nI k)) (r := []) rfl (tgt := 294) (by decide) (fun h14 => ?_) (fun h14 => ?_)
            · exfalso
              have g14 : 400 < k := (nI_ltI (a := 400) (b := k) (by omega) (by omega)).mp h14
              omega
            · skip
              have g14 : ¬ 400 < k := (fun z => h14 ((nI_ltI (a := 400) (b := k) (by omega) (by omega)).mpr z))
              refine XG.blk tX9_cut_ok 9 2 (pc' := 19) (pl' := [some (.ref 0), some (.int (nI i)), none, none, none, none, none, none]) (st' := [(.int (nI i)), (.ref 0)]) (W1 := (mW v a b)) (bs := []) rfl rfl rfl ?_
              refine XG.callV0 eX9_cut_19 kl_X9_196 (con_byteV (d - 1) v a b B n hB i (by omega) 10 (by rw [eBi, hc])) (px_fitS (by omega)) rfl rfl rfl (Nat.le_of_ble_eq_true rfl) (fun r9 W9 hp9 hl9 => ?_)
              obtain ⟨rfl, rfl⟩ := hp9
              have q2 : (v 4) = (nI n) := h4
              refine XG.blk tX9_cut_ok 12 4 (pc' := 28) (pl' := [some (.ref 0), some (.int (nI i)), some (.int (nI 10)), none, none, none, none, none]) (st' := [(.int (v 4)), (.int (nI i))]) (W1 := (mW v a b)) (bs := []) rfl rfl rfl ?_
              simp only [q2]
              refine XG.br eX9_cut_28 (P := (nI i) < (nI n)) (r := []) rfl (tgt := 43) (by decide) (fun h28 => ?_) (fun h28 => ?_)
              · skip
                have g28 : i < n := (nI_ltI (a := i) (b := n) (by omega) (by omega)).mp h28
                refine XG.blk tX9_cut_ok 25 2 (pc' := 46) (pl' := [some (.ref 0), some (.int (nI i)), some (.int (nI 10)), none, none, none, none, none]) (st' := [(.int (nI 9)), (.int (nI 10))]) (W1 := (mW v a b)) (bs := []) rfl rfl rfl ?_
                refine XG.br eX9_cut_46 (P := (nI 10) = (nI 9)) (r := []) rfl (tgt := 67) (by decide) (fun h46 => ?_) (fun h46 => ?_)
                · exfalso
                  have g46 : 10 = 9 := (nI_eq (a := 10) (b := 9) (by omega) (by omega)).mp h46
                  omega
                · skip
                  have g46 : ¬ 10 = 9 := (fun z => h46 ((nI_eq (a := 10) (b := 9) (by omega) (by omega)).mpr z))
                  refine XG.blk tX9_cut_ok 28 2 (pc' := 52) (pl' := [some (.ref 0), some (.int (nI i)), some (.int (nI 10)), none, none, none, none, none]) (st' := [(.int (nI 10)), (.int (nI 10))]) (W1 := (mW v a b)) (bs := []) rfl rfl rfl ?_
                  refine XG.br eX9_cut_52 (P := (nI 10) = (nI 10)) (r := []) rfl (tgt := 67) (by decide) (fun h52 => ?_) (fun h52 => ?_)
                  · skip
                    have g52 : 10 = 10 := (nI_eq (a := 10) (b := 10) (by omega) (by omega)).mp h52
                    have q3 : ((nI i) + (nI 1)) = (nI (i + 1)) := px_eadd rfl rfl
                    refine XG.blk tX9_cut_ok 37 1 (pc' := 70) (pl' := [some (.ref 0), some (.int ((nI i) + (nI 1))), some (.int (nI 10)), none, none, none, none, none]) (st' := []) (W1 := (mW v a b)) (bs := []) rfl rfl rfl ?_
                    simp only [q3]
                    refine XG.goto eX9_cut_70 (tgt := 291) (by decide) ?_
                    refine XG.goto eX9_cut_291 (tgt := 7) (by decide) ?_
                    refine XG.weak (pl' := [some (.ref 0), some (.int (nI (i + 1))), none, none, none, none, none, none]) ⟨rfl, rfl, trivial⟩ ?_
                    exact ih k (i + 1) v a b (by omega) ⟨h10, hk, by omega, by rw [← skp_b hi (by rw [hc]; decide)]; exact hsk, hps, hst⟩ hv ha hb
                  · exfalso
                    have g52 : ¬ 10 = 10 := (fun z => h52 ((nI_eq (a := 10) (b := 10) (by omega) (by omega)).mpr z))
                    omega
              · exfalso
                have g28 : ¬ i < n := (fun z => h28 ((nI_ltI (a := i) (b := n) (by omega) (by omega)).mpr z))
                omega
          · skip
            have q1 : (v 10) = (nI k) := h10
            refine XG.blk tX9_cut_ok 5 3 (pc' := 14) (pl' := [some (.ref 0), some (.int (nI i)), none, none, none, none, none, none]) (st' := [(.int (nI 400)), (.int (v 10))]) (W1 := (mW v a b)) (bs := []) rfl rfl rfl ?_
            simp only [q1]
            refine XG.br eX9_cut_14 (P := (nI 400) < (nI k)) (r := []) rfl (tgt := 294) (by decide) (fun h14 => ?_) (fun h14 => ?_)
            · exfalso
              have g14 : 400 < k := (nI_ltI (a := 400) (b := k) (by omega) (by omega)).mp h14
              omega
            · skip
              have g14 : ¬ 400 < k := (fun z => h14 ((nI_ltI (a := 400) (b := k) (by omega) (by omega)).mpr z))
              refine XG.blk tX9_cut_ok 9 2 (pc' := 19) (pl' := [some (.ref 0), some (.int (nI i)), none, none, none, none, none, none]) (st' := [(.int (nI i)), (.ref 0)]) (W1 := (mW v a b)) (bs := []) rfl rfl rfl ?_
              refine XG.callV0 eX9_cut_19 kl_X9_196 (con_byteV (d - 1) v a b B n hB i (by omega) 13 (by rw [eBi, hc])) (px_fitS (by omega)) rfl rfl rfl (Nat.le_of_ble_eq_true rfl) (fun r9 W9 hp9 hl9 => ?_)
              obtain ⟨rfl, rfl⟩ := hp9
              have q2 : (v 4) = (nI n) := h4
              refine XG.blk tX9_cut_ok 12 4 (pc' := 28) (pl' := [some (.ref 0), some (.int (nI i)), some (.int (nI 13)), none, none, none, none, none]) (st' := [(.int (v 4)), (.int (nI i))]) (W1 := (mW v a b)) (bs := []) rfl rfl rfl ?_
              simp only [q2]
              refine XG.br eX9_cut_28 (P := (nI i) < (nI n)) (r := []) rfl (tgt := 43) (by decide) (fun h28 => ?_) (fun h28 => ?_)
              · skip
                have g28 : i < n := (nI_ltI (a := i) (b := n) (by omega) (by omega)).mp h28
                refine XG.blk tX9_cut_ok 25 2 (pc' := 46) (pl' := [some (.ref 0), some (.int (nI i)), some (.int (nI 13)), none, none, none, none, none]) (st' := [(.int (nI 9)), (.int (nI 13))]) (W1 := (mW v a b)) (bs := []) rfl rfl rfl ?_
                refine XG.br eX9_cut_46 (P := (nI 13) = (nI 9)) (r := []) rfl (tgt := 67) (by decide) (fun h46 => ?_) (fun h46 => ?_)
                · exfalso
                  have g46 : 13 = 9 := (nI_eq (a := 13) (b := 9) (by omega) (by omega)).mp h46
                  omega
                · skip
                  have g46 : ¬ 13 = 9 := (fun z => h46 ((nI_eq (a := 13) (b := 9) (by omega) (by omega)).mpr z))
                  refine XG.blk tX9_cut_ok 28 2 (pc' := 52) (pl' := [some (.ref 0), some (.int (nI i)), some (.int (nI 13)), none, none, none, none, none]) (st' := [(.int (nI 10)), (.int (nI 13))]) (W1 := (mW v a b)) (bs := []) rfl rfl rfl ?_
                  refine XG.br eX9_cut_52 (P := (nI 13) = (nI 10)) (r := []) rfl (tgt := 67) (by decide) (fun h52 => ?_) (fun h52 => ?_)
                  · exfalso
                    have g52 : 13 = 10 := (nI_eq (a := 13) (b := 10) (by omega) (by omega)).mp h52
                    omega
                  · skip
                    have g52 : ¬ 13 = 10 := (fun z => h52 ((nI_eq (a := 13) (b := 10) (by omega) (by omega)).mpr z))
                    refine XG.blk tX9_cut_ok 31 2 (pc' := 58) (pl' := [some (.ref 0), some (.int (nI i)), some (.int (nI 13)), none, none, none, none, none]) (st' := [(.int (nI 13)), (.int (nI 13))]) (W1 := (mW v a b)) (bs := []) rfl rfl rfl ?_
                    refine XG.br eX9_cut_58 (P := (nI 13) = (nI 13)) (r := []) rfl (tgt := 67) (by decide) (fun h58 => ?_) (fun h58 => ?_)
                    · skip
                      have g58 : 13 = 13 := (nI_eq (a := 13) (b := 13) (by omega) (by omega)).mp h58
                      have q3 : ((nI i) + (nI 1)) = (nI (i + 1)) := px_eadd rfl rfl
                      refine XG.blk tX9_cut_ok 37 1 (pc' := 70) (pl' := [some (.ref 0), some (.int ((nI i) + (nI 1))), some (.int (nI 13)), none, none, none, none, none]) (st' := []) (W1 := (mW v a b)) (bs := []) rfl rfl rfl ?_
                      simp only [q3]
                      refine XG.goto eX9_cut_70 (tgt := 291) (by decide) ?_
                      refine XG.goto eX9_cut_291 (tgt := 7) (by decide) ?_
                      refine XG.weak (pl' := [some (.ref 0), some (.int (nI (i + 1))), none, none, none, none, none, none]) ⟨rfl, rfl, trivial⟩ ?_
                      exact ih k (i + 1) v a b (by omega) ⟨h10, hk, by omega, by rw [← skp_b hi (by rw [hc]; decide)]; exact hsk, hps, hst⟩ hv ha hb
                    · exfalso
                      have g58 : ¬ 13 = 13 := (fun z => h58 ((nI_eq (a := 13) (b := 13) (by omega) (by omega)).mpr z))
                      omega
              · exfalso
                have g28 : ¬ i < n := (fun z => h28 ((nI_ltI (a := i) (b := n) (by omega) (by omega)).mpr z))
                omega
          · skip
            have q1 : (v 10) = (nI k) := h10
            refine XG.blk tX9_cut_ok 5 3 (pc' := 14) (pl' := [some (.ref 0), some (.int (nI i)), none, none, none, none, none, none]) (st' := [(.int (nI 400)), (.int (v 10))]) (W1 := (mW v a b)) (bs := []) rfl rfl rfl ?_
            simp only [q1]
            refine XG.br eX9_cut_14 (P := (nI 400) < (nI k)) (r := []) rfl (tgt := 294) (by decide) (fun h14 => ?_) (fun h14 => ?_)
            · exfalso
              have g14 : 400 < k := (nI_ltI (a := 400) (b := k) (by omega) (by omega)).mp h14
              omega
            · skip
              have g14 : ¬ 400 < k := (fun z => h14 ((nI_ltI (a := 400) (b := k) (by omega) (by omega)).mpr z))
              refine XG.blk tX9_cut_ok 9 2 (pc' := 19) (pl' := [some (.ref 0), some (.int (nI i)), none, none, none, none, none, none]) (st' := [(.int (nI i)), (.ref 0)]) (W1 := (mW v a b)) (bs := []) rfl rfl rfl ?_
              refine XG.callV0 eX9_cut_19 kl_X9_196 (con_byteV (d - 1) v a b B n hB i (by omega) 32 (by rw [eBi, hc])) (px_fitS (by omega)) rfl rfl rfl (Nat.le_of_ble_eq_true rfl) (fun r9 W9 hp9 hl9 => ?_)
              obtain ⟨rfl, rfl⟩ := hp9
              have q2 : (v 4) = (nI n) := h4
              refine XG.blk tX9_cut_ok 12 4 (pc' := 28) (pl' := [some (.ref 0), some (.int (nI i)), some (.int (nI 32)), none, none, none, none, none]) (st' := [(.int (v 4)), (.int (nI i))]) (W1 := (mW v a b)) (bs := []) rfl rfl rfl ?_
              simp only [q2]
              refine XG.br eX9_cut_28 (P := (nI i) < (nI n)) (r := []) rfl (tgt := 43) (by decide) (fun h28 => ?_) (fun h28 => ?_)
              · skip
                have g28 : i < n := (nI_ltI (a := i) (b := n) (by omega) (by omega)).mp h28
                refine XG.blk tX9_cut_ok 25 2 (pc' := 46) (pl' := [some (.ref 0), some (.int (nI i)), some (.int (nI 32)), none, none, none, none, none]) (st' := [(.int (nI 9)), (.int (nI 32))]) (W1 := (mW v a b)) (bs := []) rfl rfl rfl ?_
                refine XG.br eX9_cut_46 (P := (nI 32) = (nI 9)) (r := []) rfl (tgt := 67) (by decide) (fun h46 => ?_) (fun h46 => ?_)
                · exfalso
                  have g46 : 32 = 9 := (nI_eq (a := 32) (b := 9) (by omega) (by omega)).mp h46
                  omega
                · skip
                  have g46 : ¬ 32 = 9 := (fun z => h46 ((nI_eq (a := 32) (b := 9) (by omega) (by omega)).mpr z))
                  refine XG.blk tX9_cut_ok 28 2 (pc' := 52) (pl' := [some (.ref 0), some (.int (nI i)), some (.int (nI 32)), none, none, none, none, none]) (st' := [(.int (nI 10)), (.int (nI 32))]) (W1 := (mW v a b)) (bs := []) rfl rfl rfl ?_
                  refine XG.br eX9_cut_52 (P := (nI 32) = (nI 10)) (r := []) rfl (tgt := 67) (by decide) (fun h52 => ?_) (fun h52 => ?_)
                  · exfalso
                    have g52 : 32 = 10 := (nI_eq (a := 32) (b := 10) (by omega) (by omega)).mp h52
                    omega
                  · skip
                    have g52 : ¬ 32 = 10 := (fun z => h52 ((nI_eq (a := 32) (b := 10) (by omega) (by omega)).mpr z))
                    refine XG.blk tX9_cut_ok 31 2 (pc' := 58) (pl' := [some (.ref 0), some (.int (nI i)), some (.int (nI 32)), none, none, none, none, none]) (st' := [(.int (nI 13)), (.int (nI 32))]) (W1 := (mW v a b)) (bs := []) rfl rfl rfl ?_
                    refine XG.br eX9_cut_58 (P := (nI 32) = (nI 13)) (r := []) rfl (tgt := 67) (by decide) (fun h58 => ?_) (fun h58 => ?_)
                    · exfalso
                      have g58 : 32 = 13 := (nI_eq (a := 32) (b := 13) (by omega) (by omega)).mp h58
                      omega
                    · skip
                      have g58 : ¬ 32 = 13 := (fun z => h58 ((nI_eq (a := 32) (b := 13) (by omega) (by omega)).mpr z))
                      refine XG.blk tX9_cut_ok 34 2 (pc' := 64) (pl' := [some (.ref 0), some (.int (nI i)), some (.int (nI 32)), none, none, none, none, none]) (st' := [(.int (nI 32)), (.int (nI 32))]) (W1 := (mW v a b)) (bs := []) rfl rfl rfl ?_
                      refine XG.br eX9_cut_64 (P := ¬ (nI 32) = (nI 32)) (r := []) rfl (tgt := 73) (by decide) (fun h64 => ?_) (fun h64 => ?_)
                      · exfalso
                        have g64 : ¬ 32 = 32 := (fun z => h64 ((nI_eq (a := 32) (b := 32) (by omega) (by omega)).mpr z))
                        omega
                      · skip
                        have h64 := Decidable.not_not.mp h64
                        have g64 : 32 = 32 := (nI_eq (a := 32) (b := 32) (by omega) (by omega)).mp h64
                        have q3 : ((nI i) + (nI 1)) = (nI (i + 1)) := px_eadd rfl rfl
                        refine XG.blk tX9_cut_ok 37 1 (pc' := 70) (pl' := [some (.ref 0), some (.int ((nI i) + (nI 1))), some (.int (nI 32)), none, none, none, none, none]) (st' := []) (W1 := (mW v a b)) (bs := []) rfl rfl rfl ?_
                        simp only [q3]
                        refine XG.goto eX9_cut_70 (tgt := 291) (by decide) ?_
                        refine XG.goto eX9_cut_291 (tgt := 7) (by decide) ?_
                        refine XG.weak (pl' := [some (.ref 0), some (.int (nI (i + 1))), none, none, none, none, none, none]) ⟨rfl, rfl, trivial⟩ ?_
                        exact ih k (i + 1) v a b (by omega) ⟨h10, hk, by omega, by rw [← skp_b hi (by rw [hc]; decide)]; exact hsk, hps, hst⟩ hv ha hb
              · exfalso
                have g28 : ¬ i < n := (fun z => h28 ((nI_ltI (a := i) (b := n) (by omega) (by omega)).mpr z))
                omega
        · have hbk2 : B i ≠ 9 ∧ B i ≠ 10 ∧ B i ≠ 13 ∧ B i ≠ 32 := ⟨fun z => hbk (Or.inl z), fun z => hbk (Or.inr (Or.inl z)), fun z => hbk (Or.inr (Or.inr (Or.inl z))), fun z => hbk (Or.inr (Or.inr (Or.inr z)))⟩
          by_cases hlt : ltr (B i)
          · obtain ⟨L, hL⟩ : ∃ L, wEnd B n i = i + L := ⟨wEnd B n i - i, by have := (wEnd_spec B n i).1; omega⟩
            have hws := wEnd_spec B n i
            rw [hL] at hws
            have hLn := hws.2.2.2 (by omega)
            have hLe : ∀ q, q < L → i + q < n ∧ ltr (B (i + q)) := fun q hq => hws.2.1 (i + q) (by omega) (by omega)
            have hL1 : 1 ≤ L := by have := (wEnd_gt hi hlt).1; omega
            have hwe : wEnd B n i - i = L := by omega
            have q1 : (v 10) = (nI k) := h10
            refine XG.blk tX9_cut_ok 5 3 (pc' := 14) (pl' := [some (.ref 0), some (.int (nI i)), none, none, none, none, none, none]) (st' := [(.int (nI 400)), (.int (v 10))]) (W1 := (mW v a b)) (bs := []) rfl rfl rfl ?_
            simp only [q1]
            refine XG.br eX9_cut_14 (P := (nI 400) < (nI k)) (r := []) rfl (tgt := 294) (by decide) (fun h14 => ?_) (fun h14 => ?_)
            · exfalso
              have g14 : 400 < k := (nI_ltI (a := 400) (b := k) (by omega) (by omega)).mp h14
              omega
            · skip
              have g14 : ¬ 400 < k := (fun z => h14 ((nI_ltI (a := 400) (b := k) (by omega) (by omega)).mpr z))
              refine XG.blk tX9_cut_ok 9 2 (pc' := 19) (pl' := [some (.ref 0), some (.int (nI i)), none, none, none, none, none, none]) (st' := [(.int (nI i)), (.ref 0)]) (W1 := (mW v a b)) (bs := []) rfl rfl rfl ?_
              refine XG.callV0 eX9_cut_19 kl_X9_196 (con_byteV (d - 1) v a b B n hB i (by omega) (B i) eBi) (px_fitS (by omega)) rfl rfl rfl (Nat.le_of_ble_eq_true rfl) (fun r9 W9 hp9 hl9 => ?_)
              obtain ⟨rfl, rfl⟩ := hp9
              have q2 : (v 4) = (nI n) := h4
              refine XG.blk tX9_cut_ok 12 4 (pc' := 28) (pl' := [some (.ref 0), some (.int (nI i)), some (.int (nI (B i))), none, none, none, none, none]) (st' := [(.int (v 4)), (.int (nI i))]) (W1 := (mW v a b)) (bs := []) rfl rfl rfl ?_
              simp only [q2]
              refine XG.br eX9_cut_28 (P := (nI i) < (nI n)) (r := []) rfl (tgt := 43) (by decide) (fun h28 => ?_) (fun h28 => ?_)
              · skip
                have g28 : i < n := (nI_ltI (a := i) (b := n) (by omega) (by omega)).mp h28
                refine XG.blk tX9_cut_ok 25 2 (pc' := 46) (pl' := [some (.ref 0), some (.int (nI i)), some (.int (nI (B i))), none, none, none, none, none]) (st' := [(.int (nI 9)), (.int (nI (B i)))]) (W1 := (mW v a b)) (bs := []) rfl rfl rfl ?_
                refine XG.br eX9_cut_46 (P := (nI (B i)) = (nI 9)) (r := []) rfl (tgt := 67) (by decide) (fun h46 => ?_) (fun h46 => ?_)
                · exfalso
                  have g46 : (B i) = 9 := (nI_eq (a := (B i)) (b := 9) (by omega) (by omega)).mp h46
                  omega
                · skip
                  have g46 : ¬ (B i) = 9 := (fun z => h46 ((nI_eq (a := (B i)) (b := 9) (by omega) (by omega)).mpr z))
                  refine XG.blk tX9_cut_ok 28 2 (pc' := 52) (pl' := [some (.ref 0), some (.int (nI i)), some (.int (nI (B i))), none, none, none, none, none]) (st' := [(.int (nI 10)), (.int (nI (B i)))]) (W1 := (mW v a b)) (bs := []) rfl rfl rfl ?_
                  refine XG.br eX9_cut_52 (P := (nI (B i)) = (nI 10)) (r := []) rfl (tgt := 67) (by decide) (fun h52 => ?_) (fun h52 => ?_)
                  · exfalso
                    have g52 : (B i) = 10 := (nI_eq (a := (B i)) (b := 10) (by omega) (by omega)).mp h52
                    omega
                  · skip
                    have g52 : ¬ (B i) = 10 := (fun z => h52 ((nI_eq (a := (B i)) (b := 10) (by omega) (by omega)).mpr z))
                    refine XG.blk tX9_cut_ok 31 2 (pc' := 58) (pl' := [some (.ref 0), some (.int (nI i)), some (.int (nI (B i))), none, none, none, none, none]) (st' := [(.int (nI 13)), (.int (nI (B i)))]) (W1 := (mW v a b)) (bs := []) rfl rfl rfl ?_
                    refine XG.br eX9_cut_58 (P := (nI (B i)) = (nI 13)) (r := []) rfl (tgt := 67) (by decide) (fun h58 => ?_) (fun h58 => ?_)
                    · exfalso
                      have g58 : (B i) = 13 := (nI_eq (a := (B i)) (b := 13) (by omega) (by omega)).mp h58
                      omega
                    · skip
                      have g58 : ¬ (B i) = 13 := (fun z => h58 ((nI_eq (a := (B i)) (b := 13) (by omega) (by omega)).mpr z))
                      refine XG.blk tX9_cut_ok 34 2 (pc' := 64) (pl' := [some (.ref 0), some (.int (nI i)), some (.int (nI (B i))), none, none, none, none, none]) (st' := [(.int (nI 32)), (.int (nI (B i)))]) (W1 := (mW v a b)) (bs := []) rfl rfl rfl ?_
                      refine XG.br eX9_cut_64 (P := ¬ (nI (B i)) = (nI 32)) (r := []) rfl (tgt := 73) (by decide) (fun h64 => ?_) (fun h64 => ?_)
                      · skip
                        have g64 : ¬ (B i) = 32 := (fun z => h64 ((nI_eq (a := (B i)) (b := 32) (by omega) (by omega)).mpr z))
                        refine XG.blk tX9_cut_ok 39 1 (pc' := 74) (pl' := [some (.ref 0), some (.int (nI i)), some (.int (nI (B i))), none, none, none, none, none]) (st' := [(.int (nI (B i)))]) (W1 := (mW v a b)) (bs := []) rfl rfl rfl ?_
                        refine XG.callSp (r := some (.int (nI 1))) eX9_cut_74 kl_X9_204 (con_letV (d - 1) (B i) (by omega) 1 (ltT hlt)) (px_fitS (by omega)) rfl rfl rfl rfl (Nat.le_of_ble_eq_true rfl) ?_
                        refine XG.br eX9_cut_77 (P := (nI 1) = 0) (r := []) rfl (tgt := 196) (by decide) (fun h77 => ?_) (fun h77 => ?_)
                        · exfalso
                          have g77 : 1 = 0 := (nI_eq (a := 1) (b := 0) (by omega) (by omega)).mp h77
                          omega
                        · skip
                          have g77 : ¬ 1 = 0 := (fun z => h77 ((nI_eq (a := 1) (b := 0) (by omega) (by omega)).mpr z))
                          refine XG.blk tX9_cut_ok 42 4 (pc' := 85) (pl' := [some (.ref 0), some (.int (nI i)), some (.int (nI (B i))), some (.int (nI 0)), some (.long (lN 0)), none, none, none]) (st' := []) (W1 := (mW v a b)) (bs := []) rfl rfl rfl ?_
                          have hnl : ¬ ltr (atB B n (i + L)) := by
                            unfold atB
                            by_cases h9 : i + L < n
                            · rw [if_pos h9]; exact fun z => hws.2.2.1 ⟨h9, z⟩
                            · rw [if_neg h9]; decide
                          have h256 := hB.lt (i + L)
                          show XG _ _ _ _ 85 [some (.ref 0), some (.int (nI i)), some (.int (nI (B i))), some (.int (nI 0)), some (.long (lN (enc 27 (lets B i (min 0 8))))), none, none, none] [] _
                          refine px_for L (fun q => XG mX9_cut _ 0 0 85 [some (.ref 0), some (.int (nI i)), some (.int (nI (B i))), some (.int (nI q)), some (.long (lN (enc 27 (lets B i (min q 8))))), none, none, none] [] (mW v a b)) ?_ ?_ 0 (Nat.zero_le _)
                          · skip
                            have q3 : ((nI i) + (nI L)) = (nI (i + L)) := px_eadd rfl rfl
                            refine XG.blk tX9_cut_ok 46 4 (pc' := 89) (pl' := [some (.ref 0), some (.int (nI i)), some (.int (nI (B i))), some (.int (nI L)), some (.long (lN (enc 27 (lets B i (min L 8))))), none, none, none]) (st' := [(.int ((nI i) + (nI L))), (.ref 0)]) (W1 := (mW v a b)) (bs := []) rfl rfl rfl ?_
                            simp only [q3]
                            refine XG.callV0 eX9_cut_89 kl_X9_196 (con_byteV (d - 1) v a b B n hB (i + L) (by omega) (atB B n (i + L)) rfl) (px_fitS (by omega)) rfl rfl rfl (Nat.le_of_ble_eq_true rfl) (fun r9 W9 hp9 hl9 => ?_)
                            obtain ⟨rfl, rfl⟩ := hp9
                            refine XG.callSp (r := some (.int (nI 0))) eX9_cut_92 kl_X9_204 (con_letV (d - 1) (atB B n (i + L)) (by omega) 0 (ltF hnl)) (px_fitS (by omega)) rfl rfl rfl rfl (Nat.le_of_ble_eq_true rfl) ?_
                            refine XG.br eX9_cut_95 (P := (nI 0) = 0) (r := []) rfl (tgt := 124) (by decide) (fun h95 => ?_) (fun h95 => ?_)
                            · skip
                              have g95 : 0 = 0 := (nI_eq (a := 0) (b := 0) (by omega) (by omega)).mp h95
                              refine XG.blk tX9_cut_ok 66 2 (pc' := 127) (pl' := [some (.ref 0), some (.int (nI i)), some (.int (nI (B i))), some (.int (nI L)), some (.long (lN (enc 27 (lets B i (min L 8))))), none, none, none]) (st' := [(.int (nI 8)), (.int (nI L))]) (W1 := (mW v a b)) (bs := []) rfl rfl rfl ?_
                              refine XG.br eX9_cut_127 (P := (nI L) ≤ (nI 8)) (r := []) rfl (tgt := 134) (by decide) (fun h127 => ?_) (fun h127 => ?_)
                              · skip
                                have g127 : L ≤ 8 := (nI_leI (a := L) (b := 8) (by omega) (by omega)).mp h127
                                refine XG.blk tX9_cut_ok 71 4 (pc' := 140) (pl' := [some (.ref 0), some (.int (nI i)), some (.int (nI (B i))), some (.int (nI L)), some (.long (lN (enc 27 (lets B i (min L 8))))), none, some (.int (nI 1)), none]) (st' := [(.int (nI 8)), (.int (nI L))]) (W1 := (mW v a b)) (bs := []) rfl rfl rfl ?_
                                refine XG.br eX9_cut_140 (P := (nI 8) < (nI L)) (r := []) rfl (tgt := 179) (by decide) (fun h140 => ?_) (fun h140 => ?_)
                                · exfalso
                                  have g140 : 8 < L := (nI_ltI (a := 8) (b := L) (by omega) (by omega)).mp h140
                                  omega
                                · skip
                                  have g140 : ¬ 8 < L := (fun z => h140 ((nI_ltI (a := 8) (b := L) (by omega) (by omega)).mpr z))
                                  refine XG.blk tX9_cut_ok 76 2 (pc' := 146) (pl' := [some (.ref 0), some (.int (nI i)), some (.int (nI (B i))), some (.int (nI L)), some (.long (lN (enc 27 (lets B i (min L 8))))), none, some (.int (nI 1)), some (.int (nI 0))]) (st' := []) (W1 := (mW v a b)) (bs := []) rfl rfl rfl ?_
                                  refine px_for 22 (fun y => XG mX9_cut _ 0 0 146 [some (.ref 0), some (.int (nI i)), some (.int (nI (B i))), some (.int (nI L)), some (.long (lN (enc 27 (lets B i (min L 8))))), none, some (.int (nI (kwF (lets B i L) y))), some (.int (nI y))] [] (mW v a b)) ?_ ?_ 0 (Nat.zero_le _)
                                  · skip
                                    refine XG.blk tX9_cut_ok 78 2 (pc' := 150) (pl' := [some (.ref 0), some (.int (nI i)), some (.int (nI (B i))), some (.int (nI L)), some (.long (lN (enc 27 (lets B i (min L 8))))), none, some (.int (nI (kwF (lets B i L) 22))), some (.int (nI 22))]) (st' := [(.int (nI 22)), (.int (nI 22))]) (W1 := (mW v a b)) (bs := []) rfl rfl rfl ?_
                                    refine XG.br eX9_cut_150 (P := (nI 22) ≤ (nI 22)) (r := []) rfl (tgt := 179) (by decide) (fun h150 => ?_) (fun h150 => ?_)
                                    · skip
                                      have g150 : 22 ≤ 22 := (nI_leI (a := 22) (b := 22) (by omega) (by omega)).mp h150
                                      refine XG.blk tX9_cut_ok 94 5 (pc' := 186) (pl' := [some (.ref 0), some (.int (nI i)), some (.int (nI (B i))), some (.int (nI L)), some (.long (lN (enc 27 (lets B i (min L 8))))), none, some (.int (nI (kwF (lets B i L) 22))), some (.int (nI 22))]) (st' := [(.long (lN (enc 27 (lets B i (min L 8))))), (.int (nI 0)), (.int (nI i)), (.int (nI (kwF (lets B i L) 22))), (.ref 0)]) (W1 := (mW v a b)) (bs := []) rfl rfl rfl ?_
                                      refine XG.callV0 eX9_cut_186 kl_X9_200 (con_token (d - 1) v a b k h10 (by omega) (nI (kwF (lets B i L) 22)) (nI i) (nI 0) (lN (enc 27 (lets B i (min L 8))))) (px_fitS (by omega)) rfl rfl rfl (Nat.le_of_ble_eq_true rfl) (fun r9 W9 hp9 hl9 => ?_)
                                      obtain ⟨rfl, rfl⟩ := hp9
                                      have q4 : ((nI i) + (nI L)) = (nI (i + L)) := px_eadd rfl rfl
                                      refine XG.blk tX9_cut_ok 100 4 (pc' := 193) (pl' := [some (.ref 0), some (.int ((nI i) + (nI L))), some (.int (nI (B i))), some (.int (nI L)), some (.long (lN (enc 27 (lets B i (min L 8))))), none, some (.int (nI (kwF (lets B i L) 22))), some (.int (nI 22))]) (st' := []) (W1 := (mW (va_up v 10 (nI (k + 1))) (va_up (va_up (va_up a 5 (upd (a 5) k (nI (kwF (lets B i L) 22)))) 6 (upd (a 6) k (nI i))) 7 (upd (a 7) k (nI 0))) (va_up b 8 (vp_updL (b 8) k (lN (enc 27 (lets B i (min L 8)))))))) (bs := []) rfl rfl rfl ?_
                                      simp only [q4]
                                      refine XG.goto eX9_cut_193 (tgt := 291) (by decide) ?_
                                      refine XG.goto eX9_cut_291 (tgt := 7) (by decide) ?_
                                      refine XG.weak (pl' := [some (.ref 0), some (.int (nI (i + L))), none, none, none, none, none, none]) ⟨rfl, rfl, trivial⟩ ?_
                                      have hT : tkA B n i = (kwF (lets B i L) 22, 0, lets B i L, wEnd B n i) := by rw [tkA_w hlt, if_pos (by omega), hwe]
                                      exact ih (k + 1) (i + L) _ _ _ (by omega) (CInv_tok hC hi hbk hk4 rfl rfl rfl rfl rfl (by rw [hT]) rfl (by rw [hT]) (fun _ => by rw [hT]; congr 2; rw [Nat.min_eq_left (by omega)]) (by rw [hT]; exact hL)) (hv.tr (chg.up (by decide))) (fun q hq => (show (if q = 7 then _ else if q = 6 then _ else if q = 5 then _ else a q) = a0 q by rw [if_neg (by rintro rfl; exact hq (by decide)), if_neg (by rintro rfl; exact hq (by decide)), if_neg (by rintro rfl; exact hq (by decide))]; exact ha q hq)) (hb.tr (chg.up (by decide)))
                                    · exfalso
                                      have g150 : ¬ 22 ≤ 22 := (fun z => h150 ((nI_leI (a := 22) (b := 22) (by omega) (by omega)).mpr z))
                                      omega
                                  · intro y hy ihy
                                    have hk9 := kwF_lt (lets B i L) y (by omega)
                                    have hvl : vNm (lets B i L) := lets_v (fun k hk => (hLe k hk).2) (by omega)
                                    have hvw := wds_v ⟨y, hy⟩
                                    have hm8 : min L 8 = L := by omega
                                    refine XG.blk tX9_cut_ok 78 2 (pc' := 150) (pl' := [some (.ref 0), some (.int (nI i)), some (.int (nI (B i))), some (.int (nI L)), some (.long (lN (enc 27 (lets B i (min L 8))))), none, some (.int (nI (kwF (lets B i L) y))), some (.int (nI y))]) (st' := [(.int (nI 22)), (.int (nI y))]) (W1 := (mW v a b)) (bs := []) rfl rfl rfl ?_
                                    refine XG.br eX9_cut_150 (P := (nI 22) ≤ (nI y)) (r := []) rfl (tgt := 179) (by decide) (fun h150 => ?_) (fun h150 => ?_)
                                    · exfalso
                                      have g150 : 22 ≤ y := (nI_leI (a := 22) (b := y) (by omega) (by omega)).mp h150
                                      omega
                                    · skip
                                      have g150 : ¬ 22 ≤ y := (fun z => h150 ((nI_leI (a := 22) (b := y) (by omega) (by omega)).mpr z))
                                      have q5 : (nI y).toNatClampNeg = y := nI_clamp (by omega)
                                      refine XG.blk tX9_cut_ok 81 6 (pc' := 163) (pl' := [some (.ref 0), some (.int (nI i)), some (.int (nI (B i))), some (.int (nI L)), some (.long (lN (enc 27 (lets B i (min L 8))))), none, some (.int (nI (kwF (lets B i L) y))), some (.int (nI y))]) (st' := [(.int (lg_cmp ((b 9) (nI y).toNatClampNeg) (lN (enc 27 (lets B i (min L 8))))))]) (W1 := (mW v a b)) (bs := [px_vb (nI y) 22]) rfl rfl (by (try simp only [q5]); exact (px_all (px_vbN (by omega) (by decide)) rfl)) ?_
                                      simp only [q5]
                                      refine XG.br eX9_cut_163 (P := ¬ (lg_cmp ((b 9) y) (lN (enc 27 (lets B i (min L 8))))) = 0) (r := []) rfl (tgt := 173) (by decide) (fun h163 => ?_) (fun h163 => ?_)
                                      · skip
                                        have q6 : ((nI y) + (nI 1)) = (nI (y + 1)) := px_eadd rfl rfl
                                        refine XG.blk tX9_cut_ok 92 1 (pc' := 176) (pl' := [some (.ref 0), some (.int (nI i)), some (.int (nI (B i))), some (.int (nI L)), some (.long (lN (enc 27 (lets B i (min L 8))))), none, some (.int (nI (kwF (lets B i L) y))), some (.int ((nI y) + (nI 1)))]) (st' := []) (W1 := (mW v a b)) (bs := []) rfl rfl rfl ?_
                                        simp only [q6]
                                        refine XG.goto eX9_cut_176 (tgt := 146) (by decide) ?_
                                        rw [show kwF (lets B i L) (y + 1) = kwF (lets B i L) y from if_neg (fun e9 => h163 (cmp_eq.mpr (by rw [hKy y hy, hm8, e9])))] at ihy; exact ihy
                                      · skip
                                        have h163 := Decidable.not_not.mp h163
                                        have q7 : ((nI 20) + (nI y)) = (nI (20 + y)) := px_eadd rfl rfl
                                        have q8 : ((nI y) + (nI 1)) = (nI (y + 1)) := px_eadd rfl rfl
                                        refine XG.blk tX9_cut_ok 88 5 (pc' := 176) (pl' := [some (.ref 0), some (.int (nI i)), some (.int (nI (B i))), some (.int (nI L)), some (.long (lN (enc 27 (lets B i (min L 8))))), none, some (.int ((nI 20) + (nI y))), some (.int ((nI y) + (nI 1)))]) (st' := []) (W1 := (mW v a b)) (bs := []) rfl rfl rfl ?_
                                        simp only [q7, q8]
                                        refine XG.goto eX9_cut_176 (tgt := 146) (by decide) ?_
                                        have e9 : wds.getD y [] = lets B i L := (hvw.eq hvl).mp (by rw [← hKy y hy, ← hm8]; exact cmp_eq.mp h163)
                                        rw [show kwF (lets B i L) (y + 1) = 20 + y from if_pos e9] at ihy; exact ihy
                              · skip
                                have g127 : ¬ L ≤ 8 := (fun z => h127 ((nI_leI (a := L) (b := 8) (by omega) (by omega)).mpr z))
                                refine XG.blk tX9_cut_ok 69 1 (pc' := 131) (pl' := [some (.ref 0), some (.int (nI i)), some (.int (nI (B i))), some (.int (nI L)), some (.long (lN (enc 27 (lets B i (min L 8))))), none, none, none]) (st' := [(.int (nI 3))]) (W1 := (mW v a b)) (bs := []) rfl rfl rfl ?_
                                refine XG.goto eX9_cut_131 (tgt := 135) (by decide) ?_
                                refine XG.blk tX9_cut_ok 72 3 (pc' := 140) (pl' := [some (.ref 0), some (.int (nI i)), some (.int (nI (B i))), some (.int (nI L)), some (.long (lN (enc 27 (lets B i (min L 8))))), none, some (.int (nI 3)), none]) (st' := [(.int (nI 8)), (.int (nI L))]) (W1 := (mW v a b)) (bs := []) rfl rfl rfl ?_
                                refine XG.br eX9_cut_140 (P := (nI 8) < (nI L)) (r := []) rfl (tgt := 179) (by decide) (fun h140 => ?_) (fun h140 => ?_)
                                · skip
                                  have g140 : 8 < L := (nI_ltI (a := 8) (b := L) (by omega) (by omega)).mp h140
                                  refine XG.blk tX9_cut_ok 94 5 (pc' := 186) (pl' := [some (.ref 0), some (.int (nI i)), some (.int (nI (B i))), some (.int (nI L)), some (.long (lN (enc 27 (lets B i (min L 8))))), none, some (.int (nI 3)), none]) (st' := [(.long (lN (enc 27 (lets B i (min L 8))))), (.int (nI 0)), (.int (nI i)), (.int (nI 3)), (.ref 0)]) (W1 := (mW v a b)) (bs := []) rfl rfl rfl ?_
                                  refine XG.callV0 eX9_cut_186 kl_X9_200 (con_token (d - 1) v a b k h10 (by omega) (nI 3) (nI i) (nI 0) (lN (enc 27 (lets B i (min L 8))))) (px_fitS (by omega)) rfl rfl rfl (Nat.le_of_ble_eq_true rfl) (fun r9 W9 hp9 hl9 => ?_)
                                  obtain ⟨rfl, rfl⟩ := hp9
                                  have q9 : ((nI i) + (nI L)) = (nI (i + L)) := px_eadd rfl rfl
                                  refine XG.blk tX9_cut_ok 100 4 (pc' := 193) (pl' := [some (.ref 0), some (.int ((nI i) + (nI L))), some (.int (nI (B i))), some (.int (nI L)), some (.long (lN (enc 27 (lets B i (min L 8))))), none, some (.int (nI 3)), none]) (st' := []) (W1 := (mW (va_up v 10 (nI (k + 1))) (va_up (va_up (va_up a 5 (upd (a 5) k (nI 3))) 6 (upd (a 6) k (nI i))) 7 (upd (a 7) k (nI 0))) (va_up b 8 (vp_updL (b 8) k (lN (enc 27 (lets B i (min L 8)))))))) (bs := []) rfl rfl rfl ?_
                                  simp only [q9]
                                  refine XG.goto eX9_cut_193 (tgt := 291) (by decide) ?_
                                  refine XG.goto eX9_cut_291 (tgt := 7) (by decide) ?_
                                  refine XG.weak (pl' := [some (.ref 0), some (.int (nI (i + L))), none, none, none, none, none, none]) ⟨rfl, rfl, trivial⟩ ?_
                                  have hT : tkA B n i = (3, 0, [], wEnd B n i) := by rw [tkA_w hlt, if_neg (by omega)]
                                  exact ih (k + 1) (i + L) _ _ _ (by omega) (CInv_tok hC hi hbk hk4 rfl rfl rfl rfl rfl (by rw [hT]) rfl (by rw [hT]) (by rw [hT]; intro z; cases z) (by rw [hT]; exact hL)) (hv.tr (chg.up (by decide))) (fun q hq => (show (if q = 7 then _ else if q = 6 then _ else if q = 5 then _ else a q) = a0 q by rw [if_neg (by rintro rfl; exact hq (by decide)), if_neg (by rintro rfl; exact hq (by decide)), if_neg (by rintro rfl; exact hq (by decide))]; exact ha q hq)) (hb.tr (chg.up (by decide)))
                                · exfalso
                                  have g140 : ¬ 8 < L := (fun z => h140 ((nI_ltI (a := 8) (b := L) (by omega) (by omega)).mpr z))
                                  omega
                            · exfalso
                              have g95 : ¬ 0 = 0 := (fun z => h95 ((nI_eq (a := 0) (b := 0) (by omega) (by omega)).mpr z))
                              omega
                          · intro q hq ihq
                            have hdq := (hLe q hq).2
                            have q10 : ((nI i) + (nI q)) = (nI (i + q)) := px_eadd rfl rfl
                            refine XG.blk tX9_cut_ok 46 4 (pc' := 89) (pl' := [some (.ref 0), some (.int (nI i)), some (.int (nI (B i))), some (.int (nI q)), some (.long (lN (enc 27 (lets B i (min q 8))))), none, none, none]) (st' := [(.int ((nI i) + (nI q))), (.ref 0)]) (W1 := (mW v a b)) (bs := []) rfl rfl rfl ?_
                            simp only [q10]
                            refine XG.callV0 eX9_cut_89 kl_X9_196 (con_byteV (d - 1) v a b B n hB (i + q) (by omega) (B (i + q)) (if_pos (hLe q hq).1)) (px_fitS (by omega)) rfl rfl rfl (Nat.le_of_ble_eq_true rfl) (fun r9 W9 hp9 hl9 => ?_)
                            obtain ⟨rfl, rfl⟩ := hp9
                            refine XG.callSp (r := some (.int (nI 1))) eX9_cut_92 kl_X9_204 (con_letV (d - 1) (B (i + q)) (by omega) 1 (ltT (hLe q hq).2)) (px_fitS (by omega)) rfl rfl rfl rfl (Nat.le_of_ble_eq_true rfl) ?_
                            refine XG.br eX9_cut_95 (P := (nI 1) = 0) (r := []) rfl (tgt := 124) (by decide) (fun h95 => ?_) (fun h95 => ?_)
                            · exfalso
                              have g95 : 1 = 0 := (nI_eq (a := 1) (b := 0) (by omega) (by omega)).mp h95
                              omega
                            · skip
                              have g95 : ¬ 1 = 0 := (fun z => h95 ((nI_eq (a := 1) (b := 0) (by omega) (by omega)).mpr z))
                              refine XG.blk tX9_cut_ok 53 2 (pc' := 101) (pl' := [some (.ref 0), some (.int (nI i)), some (.int (nI (B i))), some (.int (nI q)), some (.long (lN (enc 27 (lets B i (min q 8))))), none, none, none]) (st' := [(.int (nI 8)), (.int (nI q))]) (W1 := (mW v a b)) (bs := []) rfl rfl rfl ?_
                              refine XG.br eX9_cut_101 (P := (nI 8) ≤ (nI q)) (r := []) rfl (tgt := 118) (by decide) (fun h101 => ?_) (fun h101 => ?_)
                              · skip
                                have g101 : 8 ≤ q := (nI_leI (a := 8) (b := q) (by omega) (by omega)).mp h101
                                have q11 : ((nI q) + (nI 1)) = (nI (q + 1)) := px_eadd rfl rfl
                                refine XG.blk tX9_cut_ok 64 1 (pc' := 121) (pl' := [some (.ref 0), some (.int (nI i)), some (.int (nI (B i))), some (.int ((nI q) + (nI 1))), some (.long (lN (enc 27 (lets B i (min q 8))))), none, none, none]) (st' := []) (W1 := (mW v a b)) (bs := []) rfl rfl rfl ?_
                                simp only [q11]
                                refine XG.goto eX9_cut_121 (tgt := 85) (by decide) ?_
                                have hm9 : min (q + 1) 8 = min q 8 := by omega
                                rw [hm9] at ihq; exact ihq
                              · skip
                                have g101 : ¬ 8 ≤ q := (fun z => h101 ((nI_leI (a := 8) (b := q) (by omega) (by omega)).mpr z))
                                have q12 : ((nI i) + (nI q)) = (nI (i + q)) := px_eadd rfl rfl
                                refine XG.blk tX9_cut_ok 56 5 (pc' := 110) (pl' := [some (.ref 0), some (.int (nI i)), some (.int (nI (B i))), some (.int (nI q)), some (.long (lN (enc 27 (lets B i (min q 8))))), none, none, none]) (st' := [(.int ((nI i) + (nI q))), (.ref 0), (.long (lN (enc 27 (lets B i (min q 8)))))]) (W1 := (mW v a b)) (bs := []) rfl rfl rfl ?_
                                simp only [q12]
                                refine XG.callV0 eX9_cut_110 kl_X9_196 (con_byteV (d - 1) v a b B n hB (i + q) (by omega) (B (i + q)) (if_pos (hLe q hq).1)) (px_fitS (by omega)) rfl rfl rfl (Nat.le_of_ble_eq_true rfl) (fun r9 W9 hp9 hl9 => ?_)
                                obtain ⟨rfl, rfl⟩ := hp9
                                refine XG.callSp (r := some (.long (lN (27 * (enc 27 (lets B i (min q 8))) + ((B (i + q)) - 96))))) eX9_cut_113 kl_X9_189 (con_appends (d - 1) (enc 27 (lets B i (min q 8))) (B (i + q)) (by omega) (by omega) (by omega)) (px_fitS (by omega)) rfl rfl rfl rfl (Nat.le_of_ble_eq_true rfl) ?_
                                have q13 : ((nI q) + (nI 1)) = (nI (q + 1)) := px_eadd rfl rfl
                                refine XG.blk tX9_cut_ok 63 2 (pc' := 121) (pl' := [some (.ref 0), some (.int (nI i)), some (.int (nI (B i))), some (.int ((nI q) + (nI 1))), some (.long (lN (27 * (enc 27 (lets B i (min q 8))) + ((B (i + q)) - 96)))), none, none, none]) (st' := []) (W1 := (mW v a b)) (bs := []) rfl rfl rfl ?_
                                simp only [q13]
                                refine XG.goto eX9_cut_121 (tgt := 85) (by decide) ?_
                                have hm9 : min (q + 1) 8 = q + 1 := by omega
                                have hm8 : min q 8 = q := by omega
                                rw [hm9, lets_s, enc_s] at ihq
                                rw [hm8]
                                exact ihq
                      · exfalso
                        have h64 := Decidable.not_not.mp h64
                        have g64 : (B i) = 32 := (nI_eq (a := (B i)) (b := 32) (by omega) (by omega)).mp h64
                        omega
              · exfalso
                have g28 : ¬ i < n := (fun z => h28 ((nI_ltI (a := i) (b := n) (by omega) (by omega)).mpr z))
                omega
          · by_cases hdg : dgt (B i)
            · obtain ⟨L, hL⟩ : ∃ L, dEnd B n i = i + L := ⟨dEnd B n i - i, by have := (dEnd_spec B n i).1; omega⟩
              have hws := dEnd_spec B n i
              rw [hL] at hws
              have hLn := hws.2.2.2 (by omega)
              have hLe : ∀ q, q < L → i + q < n ∧ dgt (B (i + q)) := fun q hq => hws.2.1 (i + q) (by omega) (by omega)
              have hL1 : 1 ≤ L := by have := (dEnd_gt hi hdg).1; omega
              have hwe : dEnd B n i - i = L := by omega
              have q1 : (v 10) = (nI k) := h10
              refine XG.blk tX9_cut_ok 5 3 (pc' := 14) (pl' := [some (.ref 0), some (.int (nI i)), none, none, none, none, none, none]) (st' := [(.int (nI 400)), (.int (v 10))]) (W1 := (mW v a b)) (bs := []) rfl rfl rfl ?_
              simp only [q1]
              refine XG.br eX9_cut_14 (P := (nI 400) < (nI k)) (r := []) rfl (tgt := 294) (by decide) (fun h14 => ?_) (fun h14 => ?_)
              · exfalso
                have g14 : 400 < k := (nI_ltI (a := 400) (b := k) (by omega) (by omega)).mp h14
                omega
              · skip
                have g14 : ¬ 400 < k := (fun z => h14 ((nI_ltI (a := 400) (b := k) (by omega) (by omega)).mpr z))
                refine XG.blk tX9_cut_ok 9 2 (pc' := 19) (pl' := [some (.ref 0), some (.int (nI i)), none, none, none, none, none, none]) (st' := [(.int (nI i)), (.ref 0)]) (W1 := (mW v a b)) (bs := []) rfl rfl rfl ?_
                refine XG.callV0 eX9_cut_19 kl_X9_196 (con_byteV (d - 1) v a b B n hB i (by omega) (B i) eBi) (px_fitS (by omega)) rfl rfl rfl (Nat.le_of_ble_eq_true rfl) (fun r9 W9 hp9 hl9 => ?_)
                obtain ⟨rfl, rfl⟩ := hp9
                have q2 : (v 4) = (nI n) := h4
                refine XG.blk tX9_cut_ok 12 4 (pc' := 28) (pl' := [some (.ref 0), some (.int (nI i)), some (.int (nI (B i))), none, none, none, none, none]) (st' := [(.int (v 4)), (.int (nI i))]) (W1 := (mW v a b)) (bs := []) rfl rfl rfl ?_
                simp only [q2]
                refine XG.br eX9_cut_28 (P := (nI i) < (nI n)) (r := []) rfl (tgt := 43) (by decide) (fun h28 => ?_) (fun h28 => ?_)
                · skip
                  have g28 : i < n := (nI_ltI (a := i) (b := n) (by omega) (by omega)).mp h28
                  refine XG.blk tX9_cut_ok 25 2 (pc' := 46) (pl' := [some (.ref 0), some (.int (nI i)), some (.int (nI (B i))), none, none, none, none, none]) (st' := [(.int (nI 9)), (.int (nI (B i)))]) (W1 := (mW v a b)) (bs := []) rfl rfl rfl ?_
                  refine XG.br eX9_cut_46 (P := (nI (B i)) = (nI 9)) (r := []) rfl (tgt := 67) (by decide) (fun h46 => ?_) (fun h46 => ?_)
                  · exfalso
                    have g46 : (B i) = 9 := (nI_eq (a := (B i)) (b := 9) (by omega) (by omega)).mp h46
                    omega
                  · skip
                    have g46 : ¬ (B i) = 9 := (fun z => h46 ((nI_eq (a := (B i)) (b := 9) (by omega) (by omega)).mpr z))
                    refine XG.blk tX9_cut_ok 28 2 (pc' := 52) (pl' := [some (.ref 0), some (.int (nI i)), some (.int (nI (B i))), none, none, none, none, none]) (st' := [(.int (nI 10)), (.int (nI (B i)))]) (W1 := (mW v a b)) (bs := []) rfl rfl rfl ?_
                    refine XG.br eX9_cut_52 (P := (nI (B i)) = (nI 10)) (r := []) rfl (tgt := 67) (by decide) (fun h52 => ?_) (fun h52 => ?_)
                    · exfalso
                      have g52 : (B i) = 10 := (nI_eq (a := (B i)) (b := 10) (by omega) (by omega)).mp h52
                      omega
                    · skip
                      have g52 : ¬ (B i) = 10 := (fun z => h52 ((nI_eq (a := (B i)) (b := 10) (by omega) (by omega)).mpr z))
                      refine XG.blk tX9_cut_ok 31 2 (pc' := 58) (pl' := [some (.ref 0), some (.int (nI i)), some (.int (nI (B i))), none, none, none, none, none]) (st' := [(.int (nI 13)), (.int (nI (B i)))]) (W1 := (mW v a b)) (bs := []) rfl rfl rfl ?_
                      refine XG.br eX9_cut_58 (P := (nI (B i)) = (nI 13)) (r := []) rfl (tgt := 67) (by decide) (fun h58 => ?_) (fun h58 => ?_)
                      · exfalso
                        have g58 : (B i) = 13 := (nI_eq (a := (B i)) (b := 13) (by omega) (by omega)).mp h58
                        omega
                      · skip
                        have g58 : ¬ (B i) = 13 := (fun z => h58 ((nI_eq (a := (B i)) (b := 13) (by omega) (by omega)).mpr z))
                        refine XG.blk tX9_cut_ok 34 2 (pc' := 64) (pl' := [some (.ref 0), some (.int (nI i)), some (.int (nI (B i))), none, none, none, none, none]) (st' := [(.int (nI 32)), (.int (nI (B i)))]) (W1 := (mW v a b)) (bs := []) rfl rfl rfl ?_
                        refine XG.br eX9_cut_64 (P := ¬ (nI (B i)) = (nI 32)) (r := []) rfl (tgt := 73) (by decide) (fun h64 => ?_) (fun h64 => ?_)
                        · skip
                          have g64 : ¬ (B i) = 32 := (fun z => h64 ((nI_eq (a := (B i)) (b := 32) (by omega) (by omega)).mpr z))
                          refine XG.blk tX9_cut_ok 39 1 (pc' := 74) (pl' := [some (.ref 0), some (.int (nI i)), some (.int (nI (B i))), none, none, none, none, none]) (st' := [(.int (nI (B i)))]) (W1 := (mW v a b)) (bs := []) rfl rfl rfl ?_
                          refine XG.callSp (r := some (.int (nI 0))) eX9_cut_74 kl_X9_204 (con_letV (d - 1) (B i) (by omega) 0 (ltF hlt)) (px_fitS (by omega)) rfl rfl rfl rfl (Nat.le_of_ble_eq_true rfl) ?_
                          refine XG.br eX9_cut_77 (P := (nI 0) = 0) (r := []) rfl (tgt := 196) (by decide) (fun h77 => ?_) (fun h77 => ?_)
                          · skip
                            have g77 : 0 = 0 := (nI_eq (a := 0) (b := 0) (by omega) (by omega)).mp h77
                            refine XG.blk tX9_cut_ok 105 1 (pc' := 197) (pl' := [some (.ref 0), some (.int (nI i)), some (.int (nI (B i))), none, none, none, none, none]) (st' := [(.int (nI (B i)))]) (W1 := (mW v a b)) (bs := []) rfl rfl rfl ?_
                            refine XG.callSp (r := some (.int (nI 1))) eX9_cut_197 kl_X9_208 (con_digV (d - 1) (B i) (by omega) 1 (ltT hdg)) (px_fitS (by omega)) rfl rfl rfl rfl (Nat.le_of_ble_eq_true rfl) ?_
                            refine XG.br eX9_cut_200 (P := (nI 1) = 0) (r := []) rfl (tgt := 275) (by decide) (fun h200 => ?_) (fun h200 => ?_)
                            · exfalso
                              have g200 : 1 = 0 := (nI_eq (a := 1) (b := 0) (by omega) (by omega)).mp h200
                              omega
                            · skip
                              have g200 : ¬ 1 = 0 := (fun z => h200 ((nI_eq (a := 1) (b := 0) (by omega) (by omega)).mpr z))
                              refine XG.blk tX9_cut_ok 108 4 (pc' := 208) (pl' := [some (.ref 0), some (.int (nI i)), some (.int (nI (B i))), some (.int (nI 0)), some (.int (nI 0)), none, none, none]) (st' := []) (W1 := (mW v a b)) (bs := []) rfl rfl rfl ?_
                              have hnl : ¬ dgt (atB B n (i + L)) := by
                                unfold atB
                                by_cases h9 : i + L < n
                                · rw [if_pos h9]; exact fun z => hws.2.2.1 ⟨h9, z⟩
                                · rw [if_neg h9]; decide
                              have h256 := hB.lt (i + L)
                              show XG _ _ _ _ 208 [some (.ref 0), some (.int (nI i)), some (.int (nI (B i))), some (.int (nI 0)), some (.int (nI (vals B i (min 0 4)))), none, none, none] [] _
                              refine px_for L (fun q => XG mX9_cut _ 0 0 208 [some (.ref 0), some (.int (nI i)), some (.int (nI (B i))), some (.int (nI q)), some (.int (nI (vals B i (min q 4)))), none, none, none] [] (mW v a b)) ?_ ?_ 0 (Nat.zero_le _)
                              · skip
                                have q3 : ((nI i) + (nI L)) = (nI (i + L)) := px_eadd rfl rfl
                                refine XG.blk tX9_cut_ok 112 4 (pc' := 212) (pl' := [some (.ref 0), some (.int (nI i)), some (.int (nI (B i))), some (.int (nI L)), some (.int (nI (vals B i (min L 4)))), none, none, none]) (st' := [(.int ((nI i) + (nI L))), (.ref 0)]) (W1 := (mW v a b)) (bs := []) rfl rfl rfl ?_
                                simp only [q3]
                                refine XG.callV0 eX9_cut_212 kl_X9_196 (con_byteV (d - 1) v a b B n hB (i + L) (by omega) (atB B n (i + L)) rfl) (px_fitS (by omega)) rfl rfl rfl (Nat.le_of_ble_eq_true rfl) (fun r9 W9 hp9 hl9 => ?_)
                                obtain ⟨rfl, rfl⟩ := hp9
                                refine XG.callSp (r := some (.int (nI 0))) eX9_cut_215 kl_X9_208 (con_digV (d - 1) (atB B n (i + L)) (by omega) 0 (ltF hnl)) (px_fitS (by omega)) rfl rfl rfl rfl (Nat.le_of_ble_eq_true rfl) ?_
                                refine XG.br eX9_cut_218 (P := (nI 0) = 0) (r := []) rfl (tgt := 250) (by decide) (fun h218 => ?_) (fun h218 => ?_)
                                · skip
                                  have g218 : 0 = 0 := (nI_eq (a := 0) (b := 0) (by omega) (by omega)).mp h218
                                  refine XG.blk tX9_cut_ok 136 3 (pc' := 253) (pl' := [some (.ref 0), some (.int (nI i)), some (.int (nI (B i))), some (.int (nI L)), some (.int (nI (vals B i (min L 4)))), none, none, none]) (st' := [(.int (nI 4)), (.int (nI L)), (.ref 0)]) (W1 := (mW v a b)) (bs := []) rfl rfl rfl ?_
                                  refine XG.br eX9_cut_253 (P := (nI L) ≤ (nI 4)) (r := [(.ref 0)]) rfl (tgt := 260) (by decide) (fun h253 => ?_) (fun h253 => ?_)
                                  · skip
                                    have g253 : L ≤ 4 := (nI_leI (a := L) (b := 4) (by omega) (by omega)).mp h253
                                    refine XG.blk tX9_cut_ok 142 4 (pc' := 265) (pl' := [some (.ref 0), some (.int (nI i)), some (.int (nI (B i))), some (.int (nI L)), some (.int (nI (vals B i (min L 4)))), none, none, none]) (st' := [(.long (lN 0)), (.int (nI (vals B i (min L 4)))), (.int (nI i)), (.int (nI 2)), (.ref 0)]) (W1 := (mW v a b)) (bs := []) rfl rfl rfl ?_
                                    refine XG.callV0 eX9_cut_265 kl_X9_200 (con_token (d - 1) v a b k h10 (by omega) (nI 2) (nI i) (nI (vals B i (min L 4))) (lN 0)) (px_fitS (by omega)) rfl rfl rfl (Nat.le_of_ble_eq_true rfl) (fun r9 W9 hp9 hl9 => ?_)
                                    obtain ⟨rfl, rfl⟩ := hp9
                                    have q4 : ((nI i) + (nI L)) = (nI (i + L)) := px_eadd rfl rfl
                                    refine XG.blk tX9_cut_ok 147 4 (pc' := 272) (pl' := [some (.ref 0), some (.int ((nI i) + (nI L))), some (.int (nI (B i))), some (.int (nI L)), some (.int (nI (vals B i (min L 4)))), none, none, none]) (st' := []) (W1 := (mW (va_up v 10 (nI (k + 1))) (va_up (va_up (va_up a 5 (upd (a 5) k (nI 2))) 6 (upd (a 6) k (nI i))) 7 (upd (a 7) k (nI (vals B i (min L 4))))) (va_up b 8 (vp_updL (b 8) k (lN 0))))) (bs := []) rfl rfl rfl ?_
                                    simp only [q4]
                                    refine XG.goto eX9_cut_272 (tgt := 291) (by decide) ?_
                                    refine XG.goto eX9_cut_291 (tgt := 7) (by decide) ?_
                                    refine XG.weak (pl' := [some (.ref 0), some (.int (nI (i + L))), none, none, none, none, none, none]) ⟨rfl, rfl, trivial⟩ ?_
                                    have hT : tkA B n i = (2, vals B i L, [], dEnd B n i) := by rw [tkA_d hdg, if_pos (by omega), hwe]
                                    have hm8 : min L 4 = L := by omega
                                    exact ih (k + 1) (i + L) _ _ _ (by omega) (CInv_tok hC hi hbk hk4 rfl rfl rfl rfl rfl (by rw [hT]) rfl (by rw [hT, hm8]) (by rw [hT]; intro z; cases z) (by rw [hT]; exact hL)) (hv.tr (chg.up (by decide))) (fun q hq => (show (if q = 7 then _ else if q = 6 then _ else if q = 5 then _ else a q) = a0 q by rw [if_neg (by rintro rfl; exact hq (by decide)), if_neg (by rintro rfl; exact hq (by decide)), if_neg (by rintro rfl; exact hq (by decide))]; exact ha q hq)) (hb.tr (chg.up (by decide)))
                                  · skip
                                    have g253 : ¬ L ≤ 4 := (fun z => h253 ((nI_leI (a := L) (b := 4) (by omega) (by omega)).mpr z))
                                    refine XG.blk tX9_cut_ok 140 1 (pc' := 257) (pl' := [some (.ref 0), some (.int (nI i)), some (.int (nI (B i))), some (.int (nI L)), some (.int (nI (vals B i (min L 4)))), none, none, none]) (st' := [(.int (nI 3)), (.ref 0)]) (W1 := (mW v a b)) (bs := []) rfl rfl rfl ?_
                                    refine XG.goto eX9_cut_257 (tgt := 261) (by decide) ?_
                                    refine XG.blk tX9_cut_ok 143 3 (pc' := 265) (pl' := [some (.ref 0), some (.int (nI i)), some (.int (nI (B i))), some (.int (nI L)), some (.int (nI (vals B i (min L 4)))), none, none, none]) (st' := [(.long (lN 0)), (.int (nI (vals B i (min L 4)))), (.int (nI i)), (.int (nI 3)), (.ref 0)]) (W1 := (mW v a b)) (bs := []) rfl rfl rfl ?_
                                    refine XG.callV0 eX9_cut_265 kl_X9_200 (con_token (d - 1) v a b k h10 (by omega) (nI 3) (nI i) (nI (vals B i (min L 4))) (lN 0)) (px_fitS (by omega)) rfl rfl rfl (Nat.le_of_ble_eq_true rfl) (fun r9 W9 hp9 hl9 => ?_)
                                    obtain ⟨rfl, rfl⟩ := hp9
                                    have q5 : ((nI i) + (nI L)) = (nI (i + L)) := px_eadd rfl rfl
                                    refine XG.blk tX9_cut_ok 147 4 (pc' := 272) (pl' := [some (.ref 0), some (.int ((nI i) + (nI L))), some (.int (nI (B i))), some (.int (nI L)), some (.int (nI (vals B i (min L 4)))), none, none, none]) (st' := []) (W1 := (mW (va_up v 10 (nI (k + 1))) (va_up (va_up (va_up a 5 (upd (a 5) k (nI 3))) 6 (upd (a 6) k (nI i))) 7 (upd (a 7) k (nI (vals B i (min L 4))))) (va_up b 8 (vp_updL (b 8) k (lN 0))))) (bs := []) rfl rfl rfl ?_
                                    simp only [q5]
                                    refine XG.goto eX9_cut_272 (tgt := 291) (by decide) ?_
                                    refine XG.goto eX9_cut_291 (tgt := 7) (by decide) ?_
                                    refine XG.weak (pl' := [some (.ref 0), some (.int (nI (i + L))), none, none, none, none, none, none]) ⟨rfl, rfl, trivial⟩ ?_
                                    have hT : tkA B n i = (3, vals B i 4, [], dEnd B n i) := by rw [tkA_d hdg, if_neg (by omega)]
                                    have hm8 : min L 4 = 4 := by omega
                                    exact ih (k + 1) (i + L) _ _ _ (by omega) (CInv_tok hC hi hbk hk4 rfl rfl rfl rfl rfl (by rw [hT]) rfl (by rw [hT, hm8]) (by rw [hT]; intro z; cases z) (by rw [hT]; exact hL)) (hv.tr (chg.up (by decide))) (fun q hq => (show (if q = 7 then _ else if q = 6 then _ else if q = 5 then _ else a q) = a0 q by rw [if_neg (by rintro rfl; exact hq (by decide)), if_neg (by rintro rfl; exact hq (by decide)), if_neg (by rintro rfl; exact hq (by decide))]; exact ha q hq)) (hb.tr (chg.up (by decide)))
                                · exfalso
                                  have g218 : ¬ 0 = 0 := (fun z => h218 ((nI_eq (a := 0) (b := 0) (by omega) (by omega)).mpr z))
                                  omega
                              · intro q hq ihq
                                have hdq := (hLe q hq).2
                                have hvq := vals_lt (B := B) (i := i) (min q 4) (fun k hk => (hLe k (by omega)).2)
                                have hpw : 10 ^ (min q 4) ≤ 10 ^ 4 := Nat.pow_le_pow_right (by decide) (by omega)
                                have hpw2 : 10 ^ 4 = 10000 := by decide
                                have q6 : ((nI i) + (nI q)) = (nI (i + q)) := px_eadd rfl rfl
                                refine XG.blk tX9_cut_ok 112 4 (pc' := 212) (pl' := [some (.ref 0), some (.int (nI i)), some (.int (nI (B i))), some (.int (nI q)), some (.int (nI (vals B i (min q 4)))), none, none, none]) (st' := [(.int ((nI i) + (nI q))), (.ref 0)]) (W1 := (mW v a b)) (bs := []) rfl rfl rfl ?_
                                simp only [q6]
                                refine XG.callV0 eX9_cut_212 kl_X9_196 (con_byteV (d - 1) v a b B n hB (i + q) (by omega) (B (i + q)) (if_pos (hLe q hq).1)) (px_fitS (by omega)) rfl rfl rfl (Nat.le_of_ble_eq_true rfl) (fun r9 W9 hp9 hl9 => ?_)
                                obtain ⟨rfl, rfl⟩ := hp9
                                refine XG.callSp (r := some (.int (nI 1))) eX9_cut_215 kl_X9_208 (con_digV (d - 1) (B (i + q)) (by omega) 1 (ltT (hLe q hq).2)) (px_fitS (by omega)) rfl rfl rfl rfl (Nat.le_of_ble_eq_true rfl) ?_
                                refine XG.br eX9_cut_218 (P := (nI 1) = 0) (r := []) rfl (tgt := 250) (by decide) (fun h218 => ?_) (fun h218 => ?_)
                                · exfalso
                                  have g218 : 1 = 0 := (nI_eq (a := 1) (b := 0) (by omega) (by omega)).mp h218
                                  omega
                                · skip
                                  have g218 : ¬ 1 = 0 := (fun z => h218 ((nI_eq (a := 1) (b := 0) (by omega) (by omega)).mpr z))
                                  refine XG.blk tX9_cut_ok 119 2 (pc' := 223) (pl' := [some (.ref 0), some (.int (nI i)), some (.int (nI (B i))), some (.int (nI q)), some (.int (nI (vals B i (min q 4)))), none, none, none]) (st' := [(.int (nI 4)), (.int (nI q))]) (W1 := (mW v a b)) (bs := []) rfl rfl rfl ?_
                                  refine XG.br eX9_cut_223 (P := (nI 4) ≤ (nI q)) (r := []) rfl (tgt := 244) (by decide) (fun h223 => ?_) (fun h223 => ?_)
                                  · skip
                                    have g223 : 4 ≤ q := (nI_leI (a := 4) (b := q) (by omega) (by omega)).mp h223
                                    have q7 : ((nI q) + (nI 1)) = (nI (q + 1)) := px_eadd rfl rfl
                                    refine XG.blk tX9_cut_ok 134 1 (pc' := 247) (pl' := [some (.ref 0), some (.int (nI i)), some (.int (nI (B i))), some (.int ((nI q) + (nI 1))), some (.int (nI (vals B i (min q 4)))), none, none, none]) (st' := []) (W1 := (mW v a b)) (bs := []) rfl rfl rfl ?_
                                    simp only [q7]
                                    refine XG.goto eX9_cut_247 (tgt := 208) (by decide) ?_
                                    have hm9 : min (q + 1) 4 = min q 4 := by omega
                                    rw [hm9] at ihq; exact ihq
                                  · skip
                                    have g223 : ¬ 4 ≤ q := (fun z => h223 ((nI_leI (a := 4) (b := q) (by omega) (by omega)).mpr z))
                                    have q8 : ((nI 10) * (nI (vals B i (min q 4)))) = (nI (10 * (vals B i (min q 4)))) := px_emul rfl rfl
                                    have q9 : ((nI i) + (nI q)) = (nI (i + q)) := px_eadd rfl rfl
                                    refine XG.blk tX9_cut_ok 122 7 (pc' := 235) (pl' := [some (.ref 0), some (.int (nI i)), some (.int (nI (B i))), some (.int (nI q)), some (.int (nI (vals B i (min q 4)))), none, none, none]) (st' := [(.int ((nI i) + (nI q))), (.ref 0), (.int ((nI 10) * (nI (vals B i (min q 4)))))]) (W1 := (mW v a b)) (bs := []) rfl rfl rfl ?_
                                    simp only [q8, q9]
                                    refine XG.callV0 eX9_cut_235 kl_X9_196 (con_byteV (d - 1) v a b B n hB (i + q) (by omega) (B (i + q)) (if_pos (hLe q hq).1)) (px_fitS (by omega)) rfl rfl rfl (Nat.le_of_ble_eq_true rfl) (fun r9 W9 hp9 hl9 => ?_)
                                    obtain ⟨rfl, rfl⟩ := hp9
                                    have q10 : ((nI (10 * (vals B i (min q 4)))) + (nI (B (i + q)))) = (nI ((10 * (vals B i (min q 4))) + (B (i + q)))) := px_eadd rfl rfl
                                    have q11 : ((nI ((10 * (vals B i (min q 4))) + (B (i + q)))) - (nI 48)) = (nI (((10 * (vals B i (min q 4))) + (B (i + q))) - 48)) := px_esub rfl rfl (by omega)
                                    have q12 : ((nI q) + (nI 1)) = (nI (q + 1)) := px_eadd rfl rfl
                                    refine XG.blk tX9_cut_ok 130 5 (pc' := 247) (pl' := [some (.ref 0), some (.int (nI i)), some (.int (nI (B i))), some (.int ((nI q) + (nI 1))), some (.int (((nI (10 * (vals B i (min q 4)))) + (nI (B (i + q)))) - (nI 48))), none, none, none]) (st' := []) (W1 := (mW v a b)) (bs := []) rfl rfl rfl ?_
                                    simp only [q10, q11, q12]
                                    refine XG.goto eX9_cut_247 (tgt := 208) (by decide) ?_
                                    have hm9 : min (q + 1) 4 = q + 1 := by omega
                                    have hm8 : min q 4 = q := by omega
                                    rw [hm9] at ihq
                                    rw [hm8]
                                    exact ihq
                          · exfalso
                            have g77 : ¬ 0 = 0 := (fun z => h77 ((nI_eq (a := 0) (b := 0) (by omega) (by omega)).mpr z))
                            omega
                        · exfalso
                          have h64 := Decidable.not_not.mp h64
                          have g64 : (B i) = 32 := (nI_eq (a := (B i)) (b := 32) (by omega) (by omega)).mp h64
                          omega
                · exfalso
                  have g28 : ¬ i < n := (fun z => h28 ((nI_ltI (a := i) (b := n) (by omega) (by omega)).mpr z))
                  omega
            · skip
              have q1 : (v 10) = (nI k) := h10
              refine XG.blk tX9_cut_ok 5 3 (pc' := 14) (pl' := [some (.ref 0), some (.int (nI i)), none, none, none, none, none, none]) (st' := [(.int (nI 400)), (.int (v 10))]) (W1 := (mW v a b)) (bs := []) rfl rfl rfl ?_
              simp only [q1]
              refine XG.br eX9_cut_14 (P := (nI 400) < (nI k)) (r := []) rfl (tgt := 294) (by decide) (fun h14 => ?_) (fun h14 => ?_)
              · exfalso
                have g14 : 400 < k := (nI_ltI (a := 400) (b := k) (by omega) (by omega)).mp h14
                omega
              · skip
                have g14 : ¬ 400 < k := (fun z => h14 ((nI_ltI (a := 400) (b := k) (by omega) (by omega)).mpr z))
                refine XG.blk tX9_cut_ok 9 2 (pc' := 19) (pl' := [some (.ref 0), some (.int (nI i)), none, none, none, none, none, none]) (st' := [(.int (nI i)), (.ref 0)]) (W1 := (mW v a b)) (bs := []) rfl rfl rfl ?_
                refine XG.callV0 eX9_cut_19 kl_X9_196 (con_byteV (d - 1) v a b B n hB i (by omega) (B i) eBi) (px_fitS (by omega)) rfl rfl rfl (Nat.le_of_ble_eq_true rfl) (fun r9 W9 hp9 hl9 => ?_)
                obtain ⟨rfl, rfl⟩ := hp9
                have q2 : (v 4) = (nI n) := h4
                refine XG.blk tX9_cut_ok 12 4 (pc' := 28) (pl' := [some (.ref 0), some (.int (nI i)), some (.int (nI (B i))), none, none, none, none, none]) (st' := [(.int (v 4)), (.int (nI i))]) (W1 := (mW v a b)) (bs := []) rfl rfl rfl ?_
                simp only [q2]
                refine XG.br eX9_cut_28 (P := (nI i) < (nI n)) (r := []) rfl (tgt := 43) (by decide) (fun h28 => ?_) (fun h28 => ?_)
                · skip
                  have g28 : i < n := (nI_ltI (a := i) (b := n) (by omega) (by omega)).mp h28
                  refine XG.blk tX9_cut_ok 25 2 (pc' := 46) (pl' := [some (.ref 0), some (.int (nI i)), some (.int (nI (B i))), none, none, none, none, none]) (st' := [(.int (nI 9)), (.int (nI (B i)))]) (W1 := (mW v a b)) (bs := []) rfl rfl rfl ?_
                  refine XG.br eX9_cut_46 (P := (nI (B i)) = (nI 9)) (r := []) rfl (tgt := 67) (by decide) (fun h46 => ?_) (fun h46 => ?_)
                  · exfalso
                    have g46 : (B i) = 9 := (nI_eq (a := (B i)) (b := 9) (by omega) (by omega)).mp h46
                    omega
                  · skip
                    have g46 : ¬ (B i) = 9 := (fun z => h46 ((nI_eq (a := (B i)) (b := 9) (by omega) (by omega)).mpr z))
                    refine XG.blk tX9_cut_ok 28 2 (pc' := 52) (pl' := [some (.ref 0), some (.int (nI i)), some (.int (nI (B i))), none, none, none, none, none]) (st' := [(.int (nI 10)), (.int (nI (B i)))]) (W1 := (mW v a b)) (bs := []) rfl rfl rfl ?_
                    refine XG.br eX9_cut_52 (P := (nI (B i)) = (nI 10)) (r := []) rfl (tgt := 67) (by decide) (fun h52 => ?_) (fun h52 => ?_)
                    · exfalso
                      have g52 : (B i) = 10 := (nI_eq (a := (B i)) (b := 10) (by omega) (by omega)).mp h52
                      omega
                    · skip
                      have g52 : ¬ (B i) = 10 := (fun z => h52 ((nI_eq (a := (B i)) (b := 10) (by omega) (by omega)).mpr z))
                      refine XG.blk tX9_cut_ok 31 2 (pc' := 58) (pl' := [some (.ref 0), some (.int (nI i)), some (.int (nI (B i))), none, none, none, none, none]) (st' := [(.int (nI 13)), (.int (nI (B i)))]) (W1 := (mW v a b)) (bs := []) rfl rfl rfl ?_
                      refine XG.br eX9_cut_58 (P := (nI (B i)) = (nI 13)) (r := []) rfl (tgt := 67) (by decide) (fun h58 => ?_) (fun h58 => ?_)
                      · exfalso
                        have g58 : (B i) = 13 := (nI_eq (a := (B i)) (b := 13) (by omega) (by omega)).mp h58
                        omega
                      · skip
                        have g58 : ¬ (B i) = 13 := (fun z => h58 ((nI_eq (a := (B i)) (b := 13) (by omega) (by omega)).mpr z))
                        refine XG.blk tX9_cut_ok 34 2 (pc' := 64) (pl' := [some (.ref 0), some (.int (nI i)), some (.int (nI (B i))), none, none, none, none, none]) (st' := [(.int (nI 32)), (.int (nI (B i)))]) (W1 := (mW v a b)) (bs := []) rfl rfl rfl ?_
                        refine XG.br eX9_cut_64 (P := ¬ (nI (B i)) = (nI 32)) (r := []) rfl (tgt := 73) (by decide) (fun h64 => ?_) (fun h64 => ?_)
                        · skip
                          have g64 : ¬ (B i) = 32 := (fun z => h64 ((nI_eq (a := (B i)) (b := 32) (by omega) (by omega)).mpr z))
                          refine XG.blk tX9_cut_ok 39 1 (pc' := 74) (pl' := [some (.ref 0), some (.int (nI i)), some (.int (nI (B i))), none, none, none, none, none]) (st' := [(.int (nI (B i)))]) (W1 := (mW v a b)) (bs := []) rfl rfl rfl ?_
                          refine XG.callSp (r := some (.int (nI 0))) eX9_cut_74 kl_X9_204 (con_letV (d - 1) (B i) (by omega) 0 (ltF hlt)) (px_fitS (by omega)) rfl rfl rfl rfl (Nat.le_of_ble_eq_true rfl) ?_
                          refine XG.br eX9_cut_77 (P := (nI 0) = 0) (r := []) rfl (tgt := 196) (by decide) (fun h77 => ?_) (fun h77 => ?_)
                          · skip
                            have g77 : 0 = 0 := (nI_eq (a := 0) (b := 0) (by omega) (by omega)).mp h77
                            refine XG.blk tX9_cut_ok 105 1 (pc' := 197) (pl' := [some (.ref 0), some (.int (nI i)), some (.int (nI (B i))), none, none, none, none, none]) (st' := [(.int (nI (B i)))]) (W1 := (mW v a b)) (bs := []) rfl rfl rfl ?_
                            refine XG.callSp (r := some (.int (nI 0))) eX9_cut_197 kl_X9_208 (con_digV (d - 1) (B i) (by omega) 0 (ltF hdg)) (px_fitS (by omega)) rfl rfl rfl rfl (Nat.le_of_ble_eq_true rfl) ?_
                            refine XG.br eX9_cut_200 (P := (nI 0) = 0) (r := []) rfl (tgt := 275) (by decide) (fun h200 => ?_) (fun h200 => ?_)
                            · skip
                              have g200 : 0 = 0 := (nI_eq (a := 0) (b := 0) (by omega) (by omega)).mp h200
                              have q3 : ((nI i) + (nI 1)) = (nI (i + 1)) := px_eadd rfl rfl
                              refine XG.blk tX9_cut_ok 152 8 (pc' := 283) (pl' := [some (.ref 0), some (.int (nI i)), some (.int (nI (B i))), none, none, none, none, none]) (st' := [(.int ((nI i) + (nI 1))), (.ref 0), (.int (nI (B i))), (.int (nI i)), (.ref 0), (.int (nI i))]) (W1 := (mW v a b)) (bs := []) rfl rfl rfl ?_
                              simp only [q3]
                              refine XG.callV0 eX9_cut_283 kl_X9_196 (con_byteV (d - 1) v a b B n hB (i + 1) (by omega) (atB B n (i + 1)) rfl) (px_fitS (by omega)) rfl rfl rfl (Nat.le_of_ble_eq_true rfl) (fun r9 W9 hp9 hl9 => ?_)
                              obtain ⟨rfl, rfl⟩ := hp9
                              refine XG.callV0 eX9_cut_286 kl_X9_211 (con_sign (d - 1) v a b k h10 (by omega) (nI i) (B i) (by omega) (nI (atB B n (i + 1))) (by omega)) (px_fitS (by omega)) rfl rfl rfl (Nat.le_of_ble_eq_true rfl) (fun r9 W9 hp9 hl9 => ?_)
                              obtain ⟨rfl, rfl⟩ := hp9
                              have q4 : ((nI i) + (nI 1)) = (nI (i + 1)) := px_eadd rfl rfl
                              refine XG.blk tX9_cut_ok 162 2 (pc' := 291) (pl' := [some (.ref 0), some (.int ((nI i) + (nI 1))), some (.int (nI (B i))), none, none, none, none, none]) (st' := []) (W1 := (mW (va_up v 10 (nI (k + 1))) (va_up (va_up (va_up a 5 (upd (a 5) k (nI (sgnK (B i))))) 6 (upd (a 6) k (nI i))) 7 (upd (a 7) k (nI 0))) (va_up b 8 (vp_updL (b 8) k (lN 0))))) (bs := []) rfl rfl rfl ?_
                              simp only [q4]
                              refine XG.goto eX9_cut_291 (tgt := 7) (by decide) ?_
                              refine XG.weak (pl' := [some (.ref 0), some (.int (nI (i + 1))), none, none, none, none, none, none]) ⟨rfl, rfl, trivial⟩ ?_
                              have hT := tkA_s (n := n) hlt hdg
                              exact ih (k + 1) (i + 1) _ _ _ (by omega) (CInv_tok hC hi hbk hk4 rfl rfl rfl rfl rfl (by rw [hT]) rfl (by rw [hT]) (by rw [hT]; intro z; have := sgnK_lt (B i); have z : sgnK (B i) = 1 := z; omega) (by rw [hT])) (hv.tr (chg.up (by decide))) (fun q hq => (show (if q = 7 then _ else if q = 6 then _ else if q = 5 then _ else a q) = a0 q by rw [if_neg (by rintro rfl; exact hq (by decide)), if_neg (by rintro rfl; exact hq (by decide)), if_neg (by rintro rfl; exact hq (by decide))]; exact ha q hq)) (hb.tr (chg.up (by decide)))
                            · exfalso
                              have g200 : ¬ 0 = 0 := (fun z => h200 ((nI_eq (a := 0) (b := 0) (by omega) (by omega)).mpr z))
                              omega
                          · exfalso
                            have g77 : ¬ 0 = 0 := (fun z => h77 ((nI_eq (a := 0) (b := 0) (by omega) (by omega)).mpr z))
                            omega
                        · exfalso
                          have h64 := Decidable.not_not.mp h64
                          have g64 : (B i) = 32 := (nI_eq (a := (B i)) (b := 32) (by omega) (by omega)).mp h64
                          omega
                · exfalso
                  have g28 : ¬ i < n := (fun z => h28 ((nI_ltI (a := i) (b := n) (by omega) (by omega)).mpr z))
                  omega
      · obtain rfl : i = n := by omega
        have hpk : posK B i k = i := by rw [← hsk]; exact skp_n (fun z => by omega)
        have q1 : (v 10) = (nI k) := h10
        refine XG.blk tX9_cut_ok 5 3 (pc' := 14) (pl' := [some (.ref 0), some (.int (nI i)), none, none, none, none, none, none]) (st' := [(.int (nI 400)), (.int (v 10))]) (W1 := (mW v a b)) (bs := []) rfl rfl rfl ?_
        simp only [q1]
        refine XG.br eX9_cut_14 (P := (nI 400) < (nI k)) (r := []) rfl (tgt := 294) (by decide) (fun h14 => ?_) (fun h14 => ?_)
        · exfalso
          have g14 : 400 < k := (nI_ltI (a := 400) (b := k) (by omega) (by omega)).mp h14
          omega
        · skip
          have g14 : ¬ 400 < k := (fun z => h14 ((nI_ltI (a := 400) (b := k) (by omega) (by omega)).mpr z))
          refine XG.blk tX9_cut_ok 9 2 (pc' := 19) (pl' := [some (.ref 0), some (.int (nI i)), none, none, none, none, none, none]) (st' := [(.int (nI i)), (.ref 0)]) (W1 := (mW v a b)) (bs := []) rfl rfl rfl ?_
          refine XG.callV0 eX9_cut_19 kl_X9_196 (con_byteV (d - 1) v a b B i hB i (by omega) 0 (if_neg (by omega))) (px_fitS (by omega)) rfl rfl rfl (Nat.le_of_ble_eq_true rfl) (fun r9 W9 hp9 hl9 => ?_)
          obtain ⟨rfl, rfl⟩ := hp9
          have q2 : (v 4) = (nI i) := h4
          refine XG.blk tX9_cut_ok 12 4 (pc' := 28) (pl' := [some (.ref 0), some (.int (nI i)), some (.int (nI 0)), none, none, none, none, none]) (st' := [(.int (v 4)), (.int (nI i))]) (W1 := (mW v a b)) (bs := []) rfl rfl rfl ?_
          simp only [q2]
          refine XG.br eX9_cut_28 (P := (nI i) < (nI i)) (r := []) rfl (tgt := 43) (by decide) (fun h28 => ?_) (fun h28 => ?_)
          · exfalso
            have g28 : i < i := (nI_ltI (a := i) (b := i) (by omega) (by omega)).mp h28
            omega
          · skip
            have g28 : ¬ i < i := (fun z => h28 ((nI_ltI (a := i) (b := i) (by omega) (by omega)).mpr z))
            have q3 : (v 4) = (nI i) := h4
            refine XG.blk tX9_cut_ok 17 6 (pc' := 39) (pl' := [some (.ref 0), some (.int (nI i)), some (.int (nI 0)), none, none, none, none, none]) (st' := [(.long (lN 0)), (.int (nI 0)), (.int (v 4)), (.int (nI 0)), (.ref 0)]) (W1 := (mW v a b)) (bs := []) rfl rfl rfl ?_
            simp only [q3]
            refine XG.callV0 eX9_cut_39 kl_X9_200 (con_token (d - 1) v a b k h10 (by omega) (nI 0) (nI i) (nI 0) (lN 0)) (px_fitS (by omega)) rfl rfl rfl (Nat.le_of_ble_eq_true rfl) (fun r9 W9 hp9 hl9 => ?_)
            obtain ⟨rfl, rfl⟩ := hp9
            refine XS.vret eX9_cut_42 rfl ?_
            refine ⟨_, _, _, rfl, (hv.tr (chg.up (by decide))), (fun q hq => (show (if q = 7 then _ else if q = 6 then _ else if q = 5 then _ else a q) = a0 q by rw [if_neg (by rintro rfl; exact hq (by decide)), if_neg (by rintro rfl; exact hq (by decide)), if_neg (by rintro rfl; exact hq (by decide))]; exact ha q hq)), (hb.tr (chg.up (by decide))), CTok (k := k + 1) hn (StK_s hst rfl rfl rfl rfl ?_ ?_ ?_ ?_) (Or.inr ⟨by omega, ?_⟩), rfl⟩
            · show nI 0 = nI (if posK B i k < i then _ else 0); rw [if_neg (by omega)]
            · show nI i = nI (posK B i k); rw [hpk]
            · show nI 0 = nI (if posK B i k < i then _ else 0); rw [if_neg (by omega)]
            · intro z; have z : (if posK B i k < i then _ else 0) = 1 := z; rw [if_neg (by omega)] at z; cases z
            · show (if posK B i (k + 1 - 1) < i then _ else 0) = 0
              rw [show k + 1 - 1 = k by omega, if_neg (by omega)]
    · obtain rfl : k = 401 := by omega
      have q1 : (v 10) = (nI 401) := h10
      refine XG.blk tX9_cut_ok 5 3 (pc' := 14) (pl' := [some (.ref 0), some (.int (nI i)), none, none, none, none, none, none]) (st' := [(.int (nI 400)), (.int (v 10))]) (W1 := (mW v a b)) (bs := []) rfl rfl rfl ?_
      simp only [q1]
      refine XG.br eX9_cut_14 (P := (nI 400) < (nI 401)) (r := []) rfl (tgt := 294) (by decide) (fun h14 => ?_) (fun h14 => ?_)
      · skip
        have g14 : 400 < 401 := (nI_ltI (a := 400) (b := 401) (by omega) (by omega)).mp h14
        refine XS.vret eX9_cut_294 rfl ?_
        exact ⟨_, _, _, rfl, hv, ha, hb, CTok (k := 401) hn hst (Or.inl rfl), rfl⟩
      · exfalso
        have g14 : ¬ 400 < 401 := (fun z => h14 ((nI_ltI (a := 400) (b := 401) (by omega) (by omega)).mpr z))
        omega
set_option maxHeartbeats 400000 in
theorem con_cut (d : Nat) (hd : 3 ≤ d) (v : Nat → Int32) (a : Nat → Nat → Int32) (b : Nat → Nat → Int64) (B : Nat → Nat) (n : Nat) (hB : LBy B n v a) (hK : ∀ q, q < 22 → b 9 q = lN (enc 27 (wds.getD q []))) : Con mX9_cut d [.ref 0] (mW v a b) (cutPost B n v a b) := by
  refine Con.of (by decide) (Nat.le_of_ble_eq_true rfl) ?_
  refine XG.blk tX9_cut_ok 0 5 (pc' := 7) (pl' := [some (.ref 0), some (.int (nI 0)), none, none, none, none, none, none]) (st' := []) (W1 := (mW (va_up v 10 (nI 0)) a b)) (bs := []) rfl rfl rfl ?_
  exact cut_go d hd B n v a b hB hK (n + 1) 0 0 (va_up v 10 (nI 0)) a b (by omega) ⟨rfl, by omega, by omega, rfl, fun j hj => by omega, fun j hj => by omega⟩ (chg.up (by decide)) (fun _ _ => rfl) chg.rf
