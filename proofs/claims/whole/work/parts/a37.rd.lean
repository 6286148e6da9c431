/-! THE CLASS: a pair told -/
theorem prM_eq : ∀ i j x y : Fin 6, i ≠ j → (2 ^ x.val ||| 2 ^ y.val = 2 ^ i.val ||| 2 ^ j.val ↔ ((x = i ∧ y = j) ∨ (x = j ∧ y = i))) := by decide +kernel
theorem pr_has {pr : List (Option (Nat × Nat))} {f : Nat → Int32} {i j : Nat} (hi : i < 6) (hj : j < 6) (hij : ¬ i = j) (h : ∀ k e, pr[k]? = some e → f k = nI (prM e) ∧ ∀ x y, e = some (x, y) → x < 6 ∧ y < 6) : (findN (fun k => decide (f k = nI (prM (some (i, j))))) pr.length 0).isSome = true ↔ hasPr pr i j = true := by
  have key : ∀ k e, pr[k]? = some e → (f k = nI (prM (some (i, j))) ↔ (decide (e = some (i, j)) || decide (e = some (j, i))) = true) := by
    intro k e he
    obtain ⟨g1, g2⟩ := h k e he
    rw [g1]
    have hn : prM (some (i, j)) < 64 := prM_64 hi hj
    cases e with
    | none =>
      rw [nI_eq (by show (0:Nat) < _; omega) (by omega)]
      constructor
      · intro z
        have : 2 ^ i ||| 2 ^ j = 0 := z.symm
        have h0 : 2 ^ i ≤ 2 ^ i ||| 2 ^ j := Nat.left_le_or
        have := Nat.two_pow_pos i
        omega
      · intro z; simp at z
    | some q =>
      obtain ⟨x, y⟩ := q
      obtain ⟨hx, hy⟩ := g2 x y rfl
      have hn2 : prM (some (x, y)) < 64 := prM_64 hx hy
      rw [nI_eq (by omega) (by omega)]
      have hh := prM_eq ⟨i, hi⟩ ⟨j, hj⟩ ⟨x, hx⟩ ⟨y, hy⟩ (fun z => hij (congrArg Fin.val z))
      constructor
      · intro z
        rcases hh.mp z with ⟨a, b⟩ | ⟨a, b⟩
        · have a := congrArg Fin.val a; have b := congrArg Fin.val b
          have a : x = i := a
          have b : y = j := b
          rw [a, b]; simp
        · have a := congrArg Fin.val a; have b := congrArg Fin.val b
          have a : x = j := a
          have b : y = i := b
          rw [a, b]; simp
      · intro z
        rcases (Bool.or_eq_true _ _).mp z with z | z
        · have z := Option.some.inj (of_decide_eq_true z); rw [z]
        · have z := Option.some.inj (of_decide_eq_true z); rw [z]; exact Nat.or_comm _ _
  constructor
  · intro hs
    obtain ⟨k, hk⟩ := Option.isSome_iff_exists.mp hs
    obtain ⟨-, h2, h3⟩ := findN_some _ _ _ hk
    have h2 : k < pr.length := by omega
    have hm := (key k _ (List.getElem?_eq_getElem h2)).mp (of_decide_eq_true h3)
    exact List.any_eq_true.mpr ⟨_, List.getElem_mem h2, hm⟩
  · intro hs
    obtain ⟨e, he, h3⟩ := List.any_eq_true.mp hs
    obtain ⟨k, hk⟩ := List.getElem?_of_mem he
    exact findN_is _ _ k (Nat.zero_le _) (by have := (List.getElem?_eq_some_iff.mp hk).1; omega) (decide_eq_true ((key k e hk).mpr h3))
theorem fnX_i {nl : NmL} {tb : Nat → Nat → Int64} (h : NmC nl tb) (hm : (slN nl).length ≤ 6) (w : List Nat) : (fndNm nl w = none ∧ fnX nl w = -1) ∨ ∃ i, i < 6 ∧ fndNm nl w = some i ∧ fnX nl w = nI i := by
  cases e : fndNm nl w with
  | none => exact .inl ⟨rfl, by unfold fnX; rw [e]⟩
  | some i =>
    rw [h.2.2 w] at e
    obtain ⟨-, h2, -⟩ := findN_some _ _ _ e
    rw [← h.2.2 w] at e
    exact .inr ⟨i, by omega, rfl, by unfold fnX; rw [e]⟩
theorem nI_m1 {i : Nat} (h : i < 6) : ¬ nI i = -1 := by
  have : ∀ i : Fin 6, ¬ nI i.val = -1 := by decide
  exact this ⟨i, h⟩
theorem bits_ij {i j : Nat} (hi : i < 6) (hj : j < 6) : (nI 1 <<< (nI i &&& 31)) ||| (nI 1 <<< (nI j &&& 31)) = nI (prM (some (i, j))) ∧ ¬ nI (prM (some (i, j))) = 0 := by
  have : ∀ i j : Fin 6, (nI 1 <<< (nI i.val &&& 31)) ||| (nI 1 <<< (nI j.val &&& 31)) = nI (2 ^ i.val ||| 2 ^ j.val) ∧ ¬ nI (2 ^ i.val ||| 2 ^ j.val) = 0 := by decide +kernel
  exact this ⟨i, hi⟩ ⟨j, hj⟩
/-- what a pair's end asks, as soon as no fault stands -/
abbrev pairR (K : TKS) (S : SD) (s : PT) : PE ⊕ PT := bd (bd (bd (advS s) (knwS K S.2.2.1)) (knwS K S.2.2.1)) (fun s3 => .inr (s3.1, if twc S.2.2.2.1 (twN K S (s.1 + 1)) = true then noteS s3.2 3 (K.2.1 (s.1 + 1 + 1)) else s3.2))
abbrev pairS (K : TKS) (S : SD) (s : PT) : SD := (va_up S.1 30 (S.1 30 + 1), S.2.1, S.2.2.1, S.2.2.2.1 ++ [twN K S (s.1 + 1)], S.2.2.2.2)
theorem knw_s {K : TKS} {nl : NmL} {s s1 : PT} (h : knwS K nl s = .inr s1) : s1.1 = s.1 + 1 ∧ ∃ s2, mstS K 1 s = .inr s2 := by
  unfold knwS at h
  obtain ⟨s2, h1, h2⟩ := bd_inrE h
  have := (mstS_inr h1)
  refine ⟨?_, s2, h1⟩
  have h3 := Sum.inr.inj h2
  rw [← h3]
  show s2.1 = _
  rw [(mstS_inr h1).2.2]
theorem RPc.pr {K : TKS} {s : PT} {S : SD} {rv2 rv3 : Nat → Int32} {tv : Nat → Int32} {ta ra : Nat → Nat → Int32} {tb rb : Nat → Nat → Int64} (hT : CTk K ra rb) (hR : RDc S s.1 tv ta tb) (hs : s.1 ≤ 400) (h6 : S.1 30 < 6) {t : Nat} (ht : t ≤ 400) (h8 : rv2 8 = nI t) (hP2 : PVc K (bd (advS s) (knwS K S.2.2.1)) rv2) (hP3 : PVc K (bd (bd (advS s) (knwS K S.2.2.1)) (knwS K S.2.2.1)) rv3) (z x y : Int32) (b : Bool)
    (hx : ∀ s1 s', advS s = .inr s1 → mstS K 1 s1 = .inr s' → x = fnX S.2.2.1 (K.2.2.2 s1.1)) (hy : ∀ s2 s', bd (advS s) (knwS K S.2.2.1) = .inr s2 → mstS K 1 s2 = .inr s' → y = fnX S.2.2.1 (K.2.2.2 s2.1))
    (hz : (x = -1 ∨ y = -1) → z = 0 ∧ b = false) (hz2 : ¬ x = -1 → ¬ y = -1 → z = (nI 1 <<< (x &&& 31)) ||| (nI 1 <<< (y &&& 31)) ∧ (¬ z = 0 → (b = true ↔ (x = y ∨ (findN (fun k => decide (ta 12 k = z)) (S.1 30) 0).isSome = true)))) :
    RPc K (pairR K S s) (pairS K S s) (if b = true then ntV rv3 (nI 3) (ra 5 t) else rv3) (va_up tv 2 (nI (S.1 30 + 1))) (va_up ta 12 (upd (ta 12) (S.1 30) z)) tb := by
  obtain ⟨h1, h2, h3, h4, h5, hNm, hl1, hl2, hl3, hl4, hl5, hl6⟩ := id hR
  have hfq := hR.fq hs
  cases e3 : bd (bd (advS s) (knwS K S.2.2.1)) (knwS K S.2.2.1) with
  | inl e =>
    have er : pairR K S s = .inl e := by unfold pairR; rw [e3]; rfl
    rw [er]
    rw [e3] at hP3
    refine ⟨?_, hfq.cg rfl rfl, fun s9 h9 => by cases h9⟩
    cases b
    · exact hP3
    · exact hP3.ntI _ _
  | inr s3 =>
    have er : pairR K S s = .inr (s3.1, if twc S.2.2.2.1 (twN K S (s.1 + 1)) = true then noteS s3.2 3 (K.2.1 (s.1 + 1 + 1)) else s3.2) := by unfold pairR; rw [e3]; rfl
    obtain ⟨s2, k2, q2⟩ := bd_inrE e3
    obtain ⟨s1, k1, q1⟩ := bd_inrE k2
    have f1 : s1.1 = s.1 + 1 := by rw [adv_s k1]
    obtain ⟨f2, w1, m1⟩ := knw_s q1
    obtain ⟨f3, w2, m2⟩ := knw_s q2
    have ex := hx s1 w1 k1 m1
    have ey := hy s2 w2 k2 m2
    rw [k2] at hP2
    obtain rfl := hP2.at ht h8
    have hra := (hT s2.1 ht hP2.2.2.2.1).2.1
    rw [f2, f1] at ey
    rw [f1] at ex
    rw [e3] at hP3
    have hlen : (slN S.2.2.1).length ≤ 6 := by omega
    -- what is told
    have hmain : z = nI (prM (twN K S (s.1 + 1))) ∧ (b = true ↔ twc S.2.2.2.1 (twN K S (s.1 + 1)) = true) ∧ ∀ u v, twN K S (s.1 + 1) = some (u, v) → u < 6 ∧ v < 6 := by
      unfold twN prOf
      rcases fnX_i hNm hlen (K.2.2.2 (s.1 + 1)) with ⟨p1, p2⟩ | ⟨i, hi, p1, p2⟩
      · rw [p1]
        obtain ⟨z1, z2⟩ := hz (.inl (ex.trans p2))
        exact ⟨z1, ⟨fun w => (by rw [z2] at w; cases w), fun w => (by cases w)⟩, fun u v w => (by cases w)⟩
      · rcases fnX_i hNm hlen (K.2.2.2 (s.1 + 1 + 1)) with ⟨r1, r2⟩ | ⟨j, hj, r1, r2⟩
        · rw [p1, r1]
          obtain ⟨z1, z2⟩ := hz (.inr (ey.trans r2))
          exact ⟨z1, ⟨fun w => (by rw [z2] at w; cases w), fun w => (by cases w)⟩, fun u v w => (by cases w)⟩
        · rw [p1, r1]
          have ex := ex.trans p2
          have ey := ey.trans r2
          obtain ⟨z1, z2⟩ := hz2 (by rw [ex]; exact nI_m1 hi) (by rw [ey]; exact nI_m1 hj)
          obtain ⟨b1, b2⟩ := bits_ij hi hj
          rw [ex, ey, b1] at z1
          rw [z1] at z2
          have z2 := z2 b2
          refine ⟨z1, ?_, fun u v w => by cases w; exact ⟨hi, hj⟩⟩
          show _ ↔ (decide (i = j) || hasPr S.2.2.2.1 i j) = true
          rw [z2, ex, ey, nI_eq (by omega) (by omega), Bool.or_eq_true, decide_eq_true_iff]
          by_cases hij : i = j
          · exact ⟨fun _ => .inl hij, fun _ => .inl hij⟩
          · rw [← hl6, pr_has hi hj hij h4]
    obtain ⟨z1, z2, z3⟩ := hmain
    rw [er]
    refine ⟨?_, hfq.cg rfl rfl, fun s9 h9 => ?_⟩
    · rw [hra, f2, f1]
      by_cases hb : b = true
      · rw [if_pos hb, if_pos (z2.mp hb)]
        exact PVc.ntS hP3 (by omega)
      · rw [if_neg hb, if_neg (fun w => hb (z2.mpr w))]
        exact hP3
    · obtain rfl := Sum.inr.inj h9
      refine ⟨⟨h1.1, h1.2.1, rfl, h1.2.2.2⟩, h2, h3, fun i e he => ?_, h5.cg (by show s.1 ≤ s3.1; omega) rfl rfl rfl rfl, hNm, hl1, hl2, hl3, hl4, ?_, ?_⟩
      · show upd (ta 12) (S.1 30) z i = _ ∧ _
        have he : (S.2.2.2.1 ++ [twN K S (s.1 + 1)])[i]? = some e := he
        rcases Nat.lt_trichotomy i S.2.2.2.1.length with c | c | c
        · rw [List.getElem?_append_left c] at he
          rw [upd_ne (by omega)]; exact h4 i e he
        · subst c
          rw [List.getElem?_append_right (Nat.le_refl _), Nat.sub_self] at he
          obtain rfl := Option.some.inj he
          rw [hl6, upd_eq]
          exact ⟨z1, z3⟩
        · rw [List.getElem?_eq_none (by rw [List.length_append]; show _ ≤ _ ; simp; omega)] at he
          cases he
      · show S.1 30 + 1 ≤ 6; omega
      · show (S.2.2.2.1 ++ [_]).length = S.1 30 + 1
        rw [List.length_append, hl6]; rfl
set_option maxHeartbeats 1000000 in
theorem cc_parsePair (d : Nat) (rv : Nat → Int32) (ra : Nat → Nat → Int32) (rb : Nat → Nat → Int64) (tv : Nat → Int32) (ta : Nat → Nat → Int32) (tb : Nat → Nat → Int64) (K : TKS) (hT : CTk K ra rb) (s : PT) (hP : PVc K (.inr s) rv) (S : SD) (hR : RDc S s.1 tv ta tb) (hk : K.1 s.1 = 22) (hd : 3 ≤ d) : Con mX3_parsePair d [.ref 0] (dW rv ra rb (.ref 6) (xW tv ta tb)) (fun q W' => ∃ rv' tv' ta' tb', W' = dW rv' ra rb (.ref 6) (xW tv' ta' tb') ∧ chg [1, 8, 9, 10, 11] rv rv' ∧ RPc K (if S.1 30 = 6 then .inl (2, s.1) else pairR K S s) (pairS K S s) rv' tv' ta' tb' ∧ q = none) := by
  have hfq := hR.fq hP.1
  obtain ⟨h1, h2, h3, h4, h5, hNm, hl1, hl2, hl3, hl4, hl5, hl6⟩ := id hR
  have hm : tv 1 = nI (slN S.2.2.1).length := by rw [hl1]; exact h1.2.1
  have hm2 : (slN S.2.2.1).length ≤ 6 := by omega
  have hcq : tv 3 = nI (crN S.2.2.1).length := by rw [hl2]; exact h1.2.2.2.1
  have hcq2 : (crN S.2.2.1).length ≤ 5 := by omega
  refine Con.of (by decide) (Nat.le_of_ble_eq_true rfl) ?_
  have q1 : (tv 2) = (nI (S.1 30)) := h1.2.2.1
  refine XG.blk tX3_parsePair_ok 0 4 (pc' := 9) (pl' := [some (.ref 0), none, none, none, none]) (st' := [(.int (nI 6)), (.int (tv 2))]) (W1 := (dW rv ra rb (.ref 6) (xW tv ta tb))) (bs := []) rfl rfl rfl ?_
  simp only [q1]
  refine XG.br eX3_parsePair_9 (P := ¬ (nI (S.1 30)) = (nI 6)) (r := []) rfl (tgt := 18) (by decide) (fun h9 => ?_) (fun h9 => ?_)
  · skip
    have g9 : ¬ (S.1 30) = 6 := (fun z_9 => h9 ((nI_eq (a := (S.1 30)) (b := 6) (by omega) (by omega)).mpr z_9))
    refine XG.blk tX3_parsePair_ok 9 2 (pc' := 22) (pl' := [some (.ref 0), none, none, none, none]) (st' := [(.int (nI 130)), (.ref 0)]) (W1 := (dW rv ra rb (.ref 6) (xW tv ta tb))) (bs := []) rfl rfl rfl ?_
    refine XG.callV0 eX3_parsePair_22 kl_X3_130 (cc_take (d - 1) rv ra rb (.ref 6) (xW tv ta tb) K hT (.inr s) hP 22 (by unfold vk; omega) (by decide)) (px_fitS (by omega)) rfl rfl rfl (Nat.le_of_ble_eq_true rfl) (fun r9 W9 hp9 hl9 => ?_)
    obtain ⟨rv1, rfl, hc1, hP1, rfl⟩ := hp9
    show XG _ _ _ _ _ _ [] (dW rv1 ra rb (.ref 6) (xW tv ta tb))
    refine XG.blk tX3_parsePair_ok 12 1 (pc' := 26) (pl' := [some (.ref 0), none, none, none, none]) (st' := [(.ref 0)]) (W1 := (dW rv1 ra rb (.ref 6) (xW tv ta tb))) (bs := []) rfl rfl rfl ?_
    refine XG.callV0 eX3_parsePair_26 kl_X3_192 (cc_takeSleeper (d - 1) rv1 ra rb tv ta tb K hT (bd (.inr s) (mstS K 22)) hP1 S.2.2.1 hNm hm hm2 hcq hcq2 (by omega)) (px_fitS (by omega)) rfl rfl rfl (Nat.le_of_ble_eq_true rfl) (fun r9 W9 hp9 hl9 => ?_)
    obtain ⟨rv2, x2, rfl, hc2, hP2, rfl, hx2⟩ := hp9
    obtain ⟨t, ht, h8⟩ := hP2.t
    show XG _ _ _ _ _ _ [(.int x2)] (dW rv2 ra rb (.ref 6) (xW tv ta tb))
    have q2 : (rv2 8) = (nI t) := h8
    have q3 : (nI t).toNatClampNeg = t := nI_clamp (by omega)
    refine XG.blk tX3_parsePair_ok 14 8 (pc' := 41) (pl' := [some (.ref 0), some (.int x2), some (.int ((ra 5) (rv2 8).toNatClampNeg)), none, none]) (st' := [(.ref 0)]) (W1 := (dW rv2 ra rb (.ref 6) (xW tv ta tb))) (bs := [px_vb (rv2 8) 402]) rfl rfl (by (try simp only [q2, q3]); exact (px_all (px_vbN (by omega) (by decide)) rfl)) ?_
    simp only [q2, q3]
    refine XG.callV0 eX3_parsePair_41 kl_X3_192 (cc_takeSleeper (d - 1) rv2 ra rb tv ta tb K hT (bd (bd (.inr s) (mstS K 22)) (knwS K S.2.2.1)) hP2 S.2.2.1 hNm hm hm2 hcq hcq2 (by omega)) (px_fitS (by omega)) rfl rfl rfl (Nat.le_of_ble_eq_true rfl) (fun r9 W9 hp9 hl9 => ?_)
    obtain ⟨rv3, x3, rfl, hc3, hP3, rfl, hx3⟩ := hp9
    show XG _ _ _ _ _ _ [(.int x3)] (dW rv3 ra rb (.ref 6) (xW tv ta tb))
    refine XG.blk tX3_parsePair_ok 23 3 (pc' := 47) (pl' := [some (.ref 0), some (.int x2), some (.int ((ra 5) t)), some (.int x3), none]) (st' := [(.int (-1)), (.int x2)]) (W1 := (dW rv3 ra rb (.ref 6) (xW tv ta tb))) (bs := []) rfl rfl rfl ?_
    refine XG.br eX3_parsePair_47 (P := x2 = (-1)) (r := []) rfl (tgt := 55) (by decide) (fun h47 => ?_) (fun h47 => ?_)
    · skip
      refine XG.blk tX3_parsePair_ok 30 1 (pc' := 56) (pl' := [some (.ref 0), some (.int x2), some (.int ((ra 5) t)), some (.int x3), none]) (st' := [(.int (nI 0))]) (W1 := (dW rv3 ra rb (.ref 6) (xW tv ta tb))) (bs := []) rfl rfl rfl ?_
      refine XG.goto eX3_parsePair_56 (tgt := 66) (by decide) ?_
      refine XG.blk tX3_parsePair_ok 39 2 (pc' := 70) (pl' := [some (.ref 0), some (.int x2), some (.int ((ra 5) t)), some (.int x3), some (.int (nI 0))]) (st' := [(.int (nI 0))]) (W1 := (dW rv3 ra rb (.ref 6) (xW tv ta tb))) (bs := []) rfl rfl rfl ?_
      refine XG.br eX3_parsePair_70 (P := (nI 0) = 0) (r := []) rfl (tgt := 96) (by decide) (fun h70 => ?_) (fun h70 => ?_)
      · skip
        have g70 : 0 = 0 := (nI_eq (a := 0) (b := 0) (by omega) (by omega)).mp h70
        have q4 : (tv 2) = (nI (S.1 30)) := h1.2.2.1
        have q5 : (nI (S.1 30)).toNatClampNeg = (S.1 30) := nI_clamp (by omega)
        have q6 : ((nI (S.1 30)) + (nI 1)) = (nI ((S.1 30) + 1)) := px_eadd rfl rfl
        refine XG.blk tX3_parsePair_ok 54 15 (pc' := 126) (pl' := [some (.ref 0), some (.int x2), some (.int ((ra 5) t)), some (.int x3), some (.int (nI 0))]) (st' := []) (W1 := (dW rv3 ra rb (.ref 6) (xW (va_up tv 2 ((tv 2) + (nI 1))) (va_up ta 12 (upd (ta 12) (tv 2).toNatClampNeg (nI 0))) tb))) (bs := [px_vb (tv 2) 6]) rfl rfl (by (try simp only [q4, q5, q6]); exact (px_all (px_vbN (by omega) (by decide)) rfl)) ?_
        simp only [q4, q5, q6]
        refine XS.vret eX3_parsePair_126 rfl ?_
        rw [bd_mst hk] at hP2 hP3 hx2 hx3
        refine ⟨_, _, _, _, rfl, (hc1.mono (by decide)).tr (hc2.tr hc3), ?_, rfl⟩
        rw [if_neg g9]
        exact RPc.pr hT hR hP.1 (by omega) ht h8 hP2 hP3 (nI 0) x2 x3 false hx2 hx3 (fun _ => ⟨rfl, rfl⟩) (fun z _ => absurd h47 z)
      · exfalso
        have g70 : ¬ 0 = 0 := (fun z_9 => h70 ((nI_eq (a := 0) (b := 0) (by omega) (by omega)).mpr z_9))
        omega
    · skip
      refine XG.blk tX3_parsePair_ok 27 2 (pc' := 52) (pl' := [some (.ref 0), some (.int x2), some (.int ((ra 5) t)), some (.int x3), none]) (st' := [(.int (-1)), (.int x3)]) (W1 := (dW rv3 ra rb (.ref 6) (xW tv ta tb))) (bs := []) rfl rfl rfl ?_
      refine XG.br eX3_parsePair_52 (P := ¬ x3 = (-1)) (r := []) rfl (tgt := 59) (by decide) (fun h52 => ?_) (fun h52 => ?_)
      · skip
        refine XG.blk tX3_parsePair_ok 32 9 (pc' := 70) (pl' := [some (.ref 0), some (.int x2), some (.int ((ra 5) t)), some (.int x3), some (.int (((nI 1) <<< (x2 &&& 31)) ||| ((nI 1) <<< (x3 &&& 31))))]) (st' := [(.int (((nI 1) <<< (x2 &&& 31)) ||| ((nI 1) <<< (x3 &&& 31))))]) (W1 := (dW rv3 ra rb (.ref 6) (xW tv ta tb))) (bs := []) rfl rfl rfl ?_
        refine XG.br eX3_parsePair_70 (P := (((nI 1) <<< (x2 &&& 31)) ||| ((nI 1) <<< (x3 &&& 31))) = 0) (r := []) rfl (tgt := 96) (by decide) (fun h70 => ?_) (fun h70 => ?_)
        · skip
          have q7 : (tv 2) = (nI (S.1 30)) := h1.2.2.1
          have q8 : (nI (S.1 30)).toNatClampNeg = (S.1 30) := nI_clamp (by omega)
          have q9 : ((nI (S.1 30)) + (nI 1)) = (nI ((S.1 30) + 1)) := px_eadd rfl rfl
          refine XG.blk tX3_parsePair_ok 54 15 (pc' := 126) (pl' := [some (.ref 0), some (.int x2), some (.int ((ra 5) t)), some (.int x3), some (.int (((nI 1) <<< (x2 &&& 31)) ||| ((nI 1) <<< (x3 &&& 31))))]) (st' := []) (W1 := (dW rv3 ra rb (.ref 6) (xW (va_up tv 2 ((tv 2) + (nI 1))) (va_up ta 12 (upd (ta 12) (tv 2).toNatClampNeg (((nI 1) <<< (x2 &&& 31)) ||| ((nI 1) <<< (x3 &&& 31))))) tb))) (bs := [px_vb (tv 2) 6]) rfl rfl (by (try simp only [q7, q8, q9]); exact (px_all (px_vbN (by omega) (by decide)) rfl)) ?_
          simp only [q7, q8, q9]
          refine XS.vret eX3_parsePair_126 rfl ?_
          rw [bd_mst hk] at hP2 hP3 hx2 hx3
          refine ⟨_, _, _, _, rfl, (hc1.mono (by decide)).tr (hc2.tr hc3), ?_, rfl⟩
          rw [if_neg g9]
          exact RPc.pr hT hR hP.1 (by omega) ht h8 hP2 hP3 (((nI 1) <<< (x2 &&& 31)) ||| ((nI 1) <<< (x3 &&& 31))) x2 x3 false hx2 hx3 (fun z => z.elim (fun w => absurd w h47) (fun w => absurd w h52)) (fun _ _ => ⟨rfl, fun w => absurd h70 w⟩)
        · skip
          refine XG.blk tX3_parsePair_ok 42 2 (pc' := 75) (pl' := [some (.ref 0), some (.int x2), some (.int ((ra 5) t)), some (.int x3), some (.int (((nI 1) <<< (x2 &&& 31)) ||| ((nI 1) <<< (x3 &&& 31))))]) (st' := [(.int x3), (.int x2)]) (W1 := (dW rv3 ra rb (.ref 6) (xW tv ta tb))) (bs := []) rfl rfl rfl ?_
          refine XG.br eX3_parsePair_75 (P := x2 = x3) (r := []) rfl (tgt := 90) (by decide) (fun h75 => ?_) (fun h75 => ?_)
          · skip
            refine XG.blk tX3_parsePair_ok 50 3 (pc' := 93) (pl' := [some (.ref 0), some (.int x2), some (.int ((ra 5) t)), some (.int x3), some (.int (((nI 1) <<< (x2 &&& 31)) ||| ((nI 1) <<< (x3 &&& 31))))]) (st' := [(.int ((ra 5) t)), (.int (nI 3)), (.ref 0)]) (W1 := (dW rv3 ra rb (.ref 6) (xW tv ta tb))) (bs := []) rfl rfl rfl ?_
            refine XG.callV0 eX3_parsePair_93 kl_X3_79 (cc_noteLater (d - 1) rv3 ra rb (.ref 6) (xW tv ta tb) (nI 3) ((ra 5) t)) (px_fitS (by omega)) rfl rfl rfl (Nat.le_of_ble_eq_true rfl) (fun r9 W9 hp9 hl9 => ?_)
            obtain ⟨rfl, rfl⟩ := hp9
            show XG _ _ _ _ _ _ [] (dW (ntV rv3 (nI 3) ((ra 5) t)) ra rb (.ref 6) (xW tv ta tb))
            have q10 : (tv 2) = (nI (S.1 30)) := h1.2.2.1
            have q11 : (nI (S.1 30)).toNatClampNeg = (S.1 30) := nI_clamp (by omega)
            have q12 : ((nI (S.1 30)) + (nI 1)) = (nI ((S.1 30) + 1)) := px_eadd rfl rfl
            refine XG.blk tX3_parsePair_ok 54 15 (pc' := 126) (pl' := [some (.ref 0), some (.int x2), some (.int ((ra 5) t)), some (.int x3), some (.int (((nI 1) <<< (x2 &&& 31)) ||| ((nI 1) <<< (x3 &&& 31))))]) (st' := []) (W1 := (dW (ntV rv3 (nI 3) ((ra 5) t)) ra rb (.ref 6) (xW (va_up tv 2 ((tv 2) + (nI 1))) (va_up ta 12 (upd (ta 12) (tv 2).toNatClampNeg (((nI 1) <<< (x2 &&& 31)) ||| ((nI 1) <<< (x3 &&& 31))))) tb))) (bs := [px_vb (tv 2) 6]) rfl rfl (by (try simp only [q10, q11, q12]); exact (px_all (px_vbN (by omega) (by decide)) rfl)) ?_
            simp only [q10, q11, q12]
            refine XS.vret eX3_parsePair_126 rfl ?_
            rw [bd_mst hk] at hP2 hP3 hx2 hx3
            refine ⟨_, _, _, _, rfl, ((hc1.mono (by decide)).tr (hc2.tr hc3)).tr (ntV_chg.mono (by decide)), ?_, rfl⟩
            rw [if_neg g9]
            exact RPc.pr hT hR hP.1 (by omega) ht h8 hP2 hP3 (((nI 1) <<< (x2 &&& 31)) ||| ((nI 1) <<< (x3 &&& 31))) x2 x3 true hx2 hx3 (fun z => z.elim (fun w => absurd w h47) (fun w => absurd w h52)) (fun _ _ => ⟨rfl, fun _ => ⟨fun _ => .inl h75, fun _ => rfl⟩⟩)
          · skip
            refine XG.blk tX3_parsePair_ok 45 3 (pc' := 84) (pl' := [some (.ref 0), some (.int x2), some (.int ((ra 5) t)), some (.int x3), some (.int (((nI 1) <<< (x2 &&& 31)) ||| ((nI 1) <<< (x3 &&& 31))))]) (st' := [(.int (((nI 1) <<< (x2 &&& 31)) ||| ((nI 1) <<< (x3 &&& 31)))), (.ref 6)]) (W1 := (dW rv3 ra rb (.ref 6) (xW tv ta tb))) (bs := []) rfl rfl rfl ?_
            refine XG.callV (ro := [6, 7, 8, 9, 10, 11, 12, 13, 14, 15, 16, 17, 18, 19, 20]) (W1 := (tW tv ta tb)) eX3_parsePair_84 kl_X3_195 (cc_hasPair (d - 1) tv ta tb (((nI 1) <<< (x2 &&& 31)) ||| ((nI 1) <<< (x3 &&& 31))) _ h1.2.2.1 (by omega)) (px_fitS (by omega)) rfl ⟨rfl, by decide, by decide⟩ rfl rfl (Nat.le_of_ble_eq_true rfl) (fun r9 W9 hp9 hl9 => ?_)
            obtain ⟨rfl, rfl⟩ := hp9
            rw [pt_et]
            show XG _ _ _ _ _ _ [(.int (if (findN (fun i => decide (ta 12 i = (((nI 1) <<< (x2 &&& 31)) ||| ((nI 1) <<< (x3 &&& 31))))) (S.1 30) 0).isSome = true then 1 else 0))] (dW rv3 ra rb (.ref 6) (xW tv ta tb))
            refine XG.br eX3_parsePair_87 (P := (if (findN (fun i => decide (ta 12 i = (((nI 1) <<< (x2 &&& 31)) ||| ((nI 1) <<< (x3 &&& 31))))) (S.1 30) 0).isSome = true then 1 else 0) = 0) (r := []) rfl (tgt := 96) (by decide) (fun h87 => ?_) (fun h87 => ?_)
            · skip
              have q13 : (tv 2) = (nI (S.1 30)) := h1.2.2.1
              have q14 : (nI (S.1 30)).toNatClampNeg = (S.1 30) := nI_clamp (by omega)
              have q15 : ((nI (S.1 30)) + (nI 1)) = (nI ((S.1 30) + 1)) := px_eadd rfl rfl
              refine XG.blk tX3_parsePair_ok 54 15 (pc' := 126) (pl' := [some (.ref 0), some (.int x2), some (.int ((ra 5) t)), some (.int x3), some (.int (((nI 1) <<< (x2 &&& 31)) ||| ((nI 1) <<< (x3 &&& 31))))]) (st' := []) (W1 := (dW rv3 ra rb (.ref 6) (xW (va_up tv 2 ((tv 2) + (nI 1))) (va_up ta 12 (upd (ta 12) (tv 2).toNatClampNeg (((nI 1) <<< (x2 &&& 31)) ||| ((nI 1) <<< (x3 &&& 31))))) tb))) (bs := [px_vb (tv 2) 6]) rfl rfl (by (try simp only [q13, q14, q15]); exact (px_all (px_vbN (by omega) (by decide)) rfl)) ?_
              simp only [q13, q14, q15]
              refine XS.vret eX3_parsePair_126 rfl ?_
              rw [bd_mst hk] at hP2 hP3 hx2 hx3
              refine ⟨_, _, _, _, rfl, (hc1.mono (by decide)).tr (hc2.tr hc3), ?_, rfl⟩
              rw [if_neg g9]
              exact RPc.pr hT hR hP.1 (by omega) ht h8 hP2 hP3 (((nI 1) <<< (x2 &&& 31)) ||| ((nI 1) <<< (x3 &&& 31))) x2 x3 false hx2 hx3 (fun z => z.elim (fun w => absurd w h47) (fun w => absurd w h52)) (fun _ _ => ⟨rfl, fun _ => ⟨fun w => (by cases w), fun w => w.elim (fun e => absurd e h75) (fun e => absurd h87 (by rw [if_pos e]; decide))⟩⟩)
            · skip
              refine XG.blk tX3_parsePair_ok 50 3 (pc' := 93) (pl' := [some (.ref 0), some (.int x2), some (.int ((ra 5) t)), some (.int x3), some (.int (((nI 1) <<< (x2 &&& 31)) ||| ((nI 1) <<< (x3 &&& 31))))]) (st' := [(.int ((ra 5) t)), (.int (nI 3)), (.ref 0)]) (W1 := (dW rv3 ra rb (.ref 6) (xW tv ta tb))) (bs := []) rfl rfl rfl ?_
              refine XG.callV0 eX3_parsePair_93 kl_X3_79 (cc_noteLater (d - 1) rv3 ra rb (.ref 6) (xW tv ta tb) (nI 3) ((ra 5) t)) (px_fitS (by omega)) rfl rfl rfl (Nat.le_of_ble_eq_true rfl) (fun r9 W9 hp9 hl9 => ?_)
              obtain ⟨rfl, rfl⟩ := hp9
              show XG _ _ _ _ _ _ [] (dW (ntV rv3 (nI 3) ((ra 5) t)) ra rb (.ref 6) (xW tv ta tb))
              have q16 : (tv 2) = (nI (S.1 30)) := h1.2.2.1
              have q17 : (nI (S.1 30)).toNatClampNeg = (S.1 30) := nI_clamp (by omega)
              have q18 : ((nI (S.1 30)) + (nI 1)) = (nI ((S.1 30) + 1)) := px_eadd rfl rfl
              refine XG.blk tX3_parsePair_ok 54 15 (pc' := 126) (pl' := [some (.ref 0), some (.int x2), some (.int ((ra 5) t)), some (.int x3), some (.int (((nI 1) <<< (x2 &&& 31)) ||| ((nI 1) <<< (x3 &&& 31))))]) (st' := []) (W1 := (dW (ntV rv3 (nI 3) ((ra 5) t)) ra rb (.ref 6) (xW (va_up tv 2 ((tv 2) + (nI 1))) (va_up ta 12 (upd (ta 12) (tv 2).toNatClampNeg (((nI 1) <<< (x2 &&& 31)) ||| ((nI 1) <<< (x3 &&& 31))))) tb))) (bs := [px_vb (tv 2) 6]) rfl rfl (by (try simp only [q16, q17, q18]); exact (px_all (px_vbN (by omega) (by decide)) rfl)) ?_
              simp only [q16, q17, q18]
              refine XS.vret eX3_parsePair_126 rfl ?_
              rw [bd_mst hk] at hP2 hP3 hx2 hx3
              refine ⟨_, _, _, _, rfl, ((hc1.mono (by decide)).tr (hc2.tr hc3)).tr (ntV_chg.mono (by decide)), ?_, rfl⟩
              rw [if_neg g9]
              exact RPc.pr hT hR hP.1 (by omega) ht h8 hP2 hP3 (((nI 1) <<< (x2 &&& 31)) ||| ((nI 1) <<< (x3 &&& 31))) x2 x3 true hx2 hx3 (fun z => z.elim (fun w => absurd w h47) (fun w => absurd w h52)) (fun _ _ => ⟨rfl, fun _ => ⟨fun _ => .inr (Decidable.not_not.mp (fun e => h87 (if_neg e))), fun _ => rfl⟩⟩)
      · skip
        have h52 := Decidable.not_not.mp h52
        refine XG.blk tX3_parsePair_ok 30 1 (pc' := 56) (pl' := [some (.ref 0), some (.int x2), some (.int ((ra 5) t)), some (.int x3), none]) (st' := [(.int (nI 0))]) (W1 := (dW rv3 ra rb (.ref 6) (xW tv ta tb))) (bs := []) rfl rfl rfl ?_
        refine XG.goto eX3_parsePair_56 (tgt := 66) (by decide) ?_
        refine XG.blk tX3_parsePair_ok 39 2 (pc' := 70) (pl' := [some (.ref 0), some (.int x2), some (.int ((ra 5) t)), some (.int x3), some (.int (nI 0))]) (st' := [(.int (nI 0))]) (W1 := (dW rv3 ra rb (.ref 6) (xW tv ta tb))) (bs := []) rfl rfl rfl ?_
        refine XG.br eX3_parsePair_70 (P := (nI 0) = 0) (r := []) rfl (tgt := 96) (by decide) (fun h70 => ?_) (fun h70 => ?_)
        · skip
          have g70 : 0 = 0 := (nI_eq (a := 0) (b := 0) (by omega) (by omega)).mp h70
          have q19 : (tv 2) = (nI (S.1 30)) := h1.2.2.1
          have q20 : (nI (S.1 30)).toNatClampNeg = (S.1 30) := nI_clamp (by omega)
          have q21 : ((nI (S.1 30)) + (nI 1)) = (nI ((S.1 30) + 1)) := px_eadd rfl rfl
          refine XG.blk tX3_parsePair_ok 54 15 (pc' := 126) (pl' := [some (.ref 0), some (.int x2), some (.int ((ra 5) t)), some (.int x3), some (.int (nI 0))]) (st' := []) (W1 := (dW rv3 ra rb (.ref 6) (xW (va_up tv 2 ((tv 2) + (nI 1))) (va_up ta 12 (upd (ta 12) (tv 2).toNatClampNeg (nI 0))) tb))) (bs := [px_vb (tv 2) 6]) rfl rfl (by (try simp only [q19, q20, q21]); exact (px_all (px_vbN (by omega) (by decide)) rfl)) ?_
          simp only [q19, q20, q21]
          refine XS.vret eX3_parsePair_126 rfl ?_
          rw [bd_mst hk] at hP2 hP3 hx2 hx3
          refine ⟨_, _, _, _, rfl, (hc1.mono (by decide)).tr (hc2.tr hc3), ?_, rfl⟩
          rw [if_neg g9]
          exact RPc.pr hT hR hP.1 (by omega) ht h8 hP2 hP3 (nI 0) x2 x3 false hx2 hx3 (fun _ => ⟨rfl, rfl⟩) (fun _ z => absurd h52 z)
        · exfalso
          have g70 : ¬ 0 = 0 := (fun z_9 => h70 ((nI_eq (a := 0) (b := 0) (by omega) (by omega)).mpr z_9))
          omega
  · skip
    have h9 := Decidable.not_not.mp h9
    have g9 : (S.1 30) = 6 := (nI_eq (a := (S.1 30)) (b := 6) (by omega) (by omega)).mp h9
    refine XG.blk tX3_parsePair_ok 5 2 (pc' := 14) (pl' := [some (.ref 0), none, none, none, none]) (st' := [(.int (nI 2)), (.ref 0)]) (W1 := (dW rv ra rb (.ref 6) (xW tv ta tb))) (bs := []) rfl rfl rfl ?_
    refine XG.callV0 eX3_parsePair_14 kl_X3_149 (cc_fail (d - 1) rv ra rb (.ref 6) (xW tv ta tb) K hT (.inr s) hP 2 (by decide)) (px_fitS (by omega)) rfl rfl rfl (Nat.le_of_ble_eq_true rfl) (fun r9 W9 hp9 hl9 => ?_)
    obtain ⟨rv1, rfl, hc1, hP1, rfl⟩ := hp9
    show XG _ _ _ _ _ _ [] (dW rv1 ra rb (.ref 6) (xW tv ta tb))
    refine XS.vret eX3_parsePair_17 rfl ?_
    refine ⟨_, _, _, _, rfl, hc1.mono (by decide), ?_, rfl⟩
    rw [if_pos g9]
    exact ⟨hP1, hfq, fun s3 h3 => by cases h3⟩
