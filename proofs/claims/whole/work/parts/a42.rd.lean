/-! THE CLASS: what is told -/
def prs (T : PE ⊕ (PT × SD)) : PE ⊕ PT := bd T (fun q => .inr q.1)
def TPc (K : TKS) (T : PE ⊕ (PT × SD)) (rv : Nat → Int32) (tv : Nat → Int32) (ta : Nat → Nat → Int32) (tb : Nat → Nat → Int64) : Prop := PVc K (prs T) rv ∧ Fq tv ∧ ∀ q, T = .inr q → RDc q.2 q.1.1 tv ta tb
def tk4 (K : TKS) (q : PT × SD) : PE ⊕ (PT × SD) := bd (mstS K 4 q.1) (fun s4 => .inr (s4, q.2))
theorem RPc.tp {K : TKS} {R : PE ⊕ PT} {S : SD} {rv tv : Nat → Int32} {ta : Nat → Nat → Int32} {tb : Nat → Nat → Int64} (h : RPc K R S rv tv ta tb) : TPc K (bd R (fun s9 => .inr (s9, S))) rv tv ta tb := by
  refine ⟨?_, h.2.1, fun q hq => ?_⟩
  · have e : prs (bd R (fun s9 => .inr (s9, S))) = R := by cases R <;> rfl
    rw [e]; exact h.1
  · obtain ⟨s, e, hq⟩ := bd_inrE hq
    obtain rfl := Sum.inr.inj hq
    exact h.2.2 s e
theorem RDc.mono {S : SD} {t t' : Nat} {tv : Nat → Int32} {ta : Nat → Nat → Int32} {tb : Nat → Nat → Int64} (h : RDc S t tv ta tb) (ht : t ≤ t') : RDc S t' tv ta tb := by
  obtain ⟨h1, h2, h3, h4, h5, h6, h7⟩ := h
  exact ⟨h1, h2, h3, h4, h5.mono ht, h6, h7⟩
theorem TPc.tk {K : TKS} {T : PE ⊕ (PT × SD)} {rv rv2 tv : Nat → Int32} {ta : Nat → Nat → Int32} {tb : Nat → Nat → Int64} (h : TPc K T rv tv ta tb) (hP : PVc K (bd (prs T) (mstS K 4)) rv2) : TPc K (bd T (tk4 K)) rv2 tv ta tb := by
  refine ⟨?_, h.2.1, fun q hq => ?_⟩
  · have e : prs (bd T (tk4 K)) = bd (prs T) (mstS K 4) := by
      cases T with
      | inl e => rfl
      | inr q =>
        show prs (bd (mstS K 4 q.1) _) = mstS K 4 q.1
        cases mstS K 4 q.1 <;> rfl
    rw [e]; exact hP
  · obtain ⟨q0, e0, e1⟩ := bd_inrE hq
    obtain ⟨s4, e2, e3⟩ := bd_inrE e1
    obtain rfl := Sum.inr.inj e3
    have := (mstS_inr e2).2.2
    rw [this]
    exact (h.2.2 q0 e0).mono (Nat.le_succ _)
theorem TPc.rq {K : TKS} {T : PE ⊕ (PT × SD)} {rv tv : Nat → Int32} {ta : Nat → Nat → Int32} {tb : Nat → Nat → Int64} (h : TPc K T rv tv ta tb) : RQc K T rv tv ta tb := by
  cases T with
  | inl e => exact ⟨h.1, h.2.1⟩
  | inr q => exact ⟨h.1, h.2.2 q rfl⟩
theorem tk_as {K : TKS} (Y : PE ⊕ PT) (S : SD) : bd (bd Y (mstS K 4)) (fun s7 => .inr (s7, S)) = bd (bd Y (fun s9 => .inr (s9, S))) (tk4 K) := by
  cases Y <;> rfl
theorem tk_as2 {K : TKS} (Y : PE ⊕ PT) (f : PT → PT) (S : SD) : bd (bd Y (fun s3 => mstS K 4 (f s3))) (fun s7 => .inr (s7, S)) = bd (bd (bd Y (fun s3 => .inr (f s3))) (fun s9 => .inr (s9, S))) (tk4 K) := by
  cases Y <;> rfl
theorem tl_num (K : TKS) (s : PT) (S : SD) (k lo hi : Nat) : tNum K k lo hi (s, S) = bd (bd (bd (advS s) (bndS K lo hi)) (fun s9 => .inr (s9, (va_up S.1 k (K.2.2.1 (s.1 + 1)), S.2)))) (tk4 K) := by
  unfold tNum
  exact tk_as _ _
theorem tl_slp (K : TKS) (s : PT) (S : SD) : tSlp K (s, S) = bd (bd (if S.1 24 = 6 then .inl (2, s.1) else (bd (bd (bd (bd (bd (advS s) (nameS K S.2.2.1)) (bndS K 0 99)) (bndS K 0 9)) (bndS K 0 9)) (bndS K 0 4))) (fun s9 => .inr (s9, (va_up S.1 24 (S.1 24 + 1), up2 (up2 (up2 (up2 S.2.1 25 (S.1 24) (K.2.2.1 (s.1 + 1 + 1))) 26 (S.1 24) (K.2.2.1 (s.1 + 1 + 2))) 27 (S.1 24) (K.2.2.1 (s.1 + 1 + 3))) 28 (S.1 24) (K.2.2.1 (s.1 + 1 + 4)), S.2.2.1 ++ [(K.2.2.2 (s.1 + 1), some (S.1 24))], S.2.2.2)))) (tk4 K) := by
  unfold tSlp
  show (if S.1 24 = 6 then _ else _) = _
  by_cases h : S.1 24 = 6
  · rw [if_pos h, if_pos h]; rfl
  · rw [if_neg h, if_neg h]
    show bd (advS s) _ = _
    cases e : advS s with
    | inl e => rfl
    | inr s1 =>
      obtain rfl := adv_s e
      show slT K (s.1 + 1, s.2) S = _
      unfold slT
      exact tk_as _ _
theorem tl_crs (K : TKS) (s : PT) (S : SD) : tCrs K (s, S) = bd (bd (if S.1 31 = 5 then .inl (2, s.1) else (bd (bd (bd (bd (advS s) (nameS K S.2.2.1)) (bndS K 0 99)) (bndS K 0 9)) (bndS K 0 99))) (fun s9 => .inr (s9, (va_up S.1 31 (S.1 31 + 1), up2 (up2 (up2 S.2.1 32 (S.1 31) (K.2.2.1 (s.1 + 1 + 1))) 33 (S.1 31) (K.2.2.1 (s.1 + 1 + 2))) 34 (S.1 31) (K.2.2.1 (s.1 + 1 + 3)), S.2.2.1 ++ [(K.2.2.2 (s.1 + 1), none)], S.2.2.2)))) (tk4 K) := by
  unfold tCrs
  show (if S.1 31 = 5 then _ else _) = _
  by_cases h : S.1 31 = 5
  · rw [if_pos h, if_pos h]; rfl
  · rw [if_neg h, if_neg h]
    show bd (advS s) _ = _
    cases e : advS s with
    | inl e => rfl
    | inr s1 =>
      obtain rfl := adv_s e
      show crT K (s.1 + 1, s.2) S = _
      unfold crT
      exact tk_as _ _
theorem tl_pr (K : TKS) (s : PT) (S : SD) : tPr K (s, S) = bd (bd (if S.1 30 = 6 then .inl (2, s.1) else pairR K S s) (fun s9 => .inr (s9, pairS K S s))) (tk4 K) := by
  unfold tPr
  show (if S.1 30 = 6 then _ else _) = _
  by_cases h : S.1 30 = 6
  · rw [if_pos h, if_pos h]; rfl
  · rw [if_neg h, if_neg h]
    unfold pairR
    show bd (advS s) _ = _
    cases e : advS s with
    | inl e => rfl
    | inr s1 =>
      obtain rfl := adv_s e
      show paT K (s.1 + 1, s.2) S = _
      unfold paT
      exact tk_as2 _ (fun s3 => (s3.1, if twc S.2.2.2.1 (twN K S (s.1 + 1)) = true then noteS s3.2 3 (K.2.1 (s.1 + 1 + 1)) else s3.2)) _
theorem tl_law (K : TKS) (s : PT) (S : SD) (k : Nat) (hk : K.1 s.1 = k) : tLaw K (k - 24) (s, S) = bd (bd (bd (bd (bd (.inr s) (mstS K k)) (mstS K 5)) (fun s2 => lawT K 4 (s2, []))) (fun q => .inr (q.1, (S.1, S.2.1, S.2.2.1, S.2.2.2.1, va_up S.2.2.2.2 (k - 24) (some q.2))))) (tk4 K) := by
  rw [bd_mst hk]
  unfold tLaw lawT advS tk4 mstS
  generalize lawS9 K 4 = L
  try simp only [bd_inr]
  cases advN s.1 with
  | inl e => rfl
  | inr t1 =>
    try simp only [bd_inr]
    cases mstN K 5 t1 with
    | inl e => rfl
    | inr t2 =>
      try simp only [bd_inr]
      cases L t2 [] with
      | inl e => rfl
      | inr x =>
        try simp only [bd_inr]
        cases mstN K 4 x.1 <;> rfl
theorem vX_self {tv : Nat → Int32} {ta : Nat → Nat → Int32} {tb : Nat → Nat → Int64} {z : Nat} (h : tv 20 = nI z) : vX tv ta tb z (ta 20) (ta 21) = xW tv ta tb := by
  unfold vX
  have e1 : va_up tv 20 (nI z) = tv := by
    funext k; unfold va_up
    by_cases h20 : k = 20
    · rw [if_pos h20, h20, h]
    · rw [if_neg h20]
  have e2 : va_up (va_up ta 20 (ta 20)) 21 (ta 21) = ta := by
    funext k; unfold va_up
    by_cases h21 : k = 21
    · rw [if_pos h21, h21]
    · rw [if_neg h21]
      by_cases h20 : k = 20
      · rw [if_pos h20, h20]
      · rw [if_neg h20]
  rw [e1, e2]
theorem cc_lawTold (d : Nat) (rv : Nat → Int32) (ra : Nat → Nat → Int32) (rb : Nat → Nat → Int64) (tv : Nat → Int32) (ta : Nat → Nat → Int32) (tb : Nat → Nat → Int64) (K : TKS) (hT : CTk K ra rb) (s : PT) (hP : PVc K (.inr s) rv) (S : SD) (hR : RDc S s.1 tv ta tb) (k : Nat) (hk : K.1 s.1 = k) (hk2 : 24 ≤ k ∧ k ≤ 26) (hd : 22 ≤ d) : Con mX3_parseLaw d [.ref 0, .int (nI (ck k))] (dW rv ra rb (.ref 6) (xW tv ta tb)) (fun q W' => ∃ rv' tv' ta' tb', W' = dW rv' ra rb (.ref 6) (xW tv' ta' tb') ∧ chg [1, 8, 9, 10, 11] rv rv' ∧ TPc K (bd (bd (bd (bd (.inr s) (mstS K k)) (mstS K 5)) (fun s2 => lawT K 4 (s2, []))) (fun q => .inr (q.1, (S.1, S.2.1, S.2.2.1, S.2.2.2.1, va_up S.2.2.2.2 (k - 24) (some q.2))))) rv' tv' ta' tb' ∧ q = none) := by
  obtain ⟨h1, h2, h3, h4, ⟨sz, g1, g2, g4, g3⟩, h6, h7⟩ := hR
  have hs4 := hP.1
  have hck : ck k - 132 = k - 24 := by
    rcases (show k = 24 ∨ k = 25 ∨ k = 26 by omega) with rfl | rfl | rfl <;> rfl
  rw [← vX_self (ta := ta) (tb := tb) g1]
  refine Con.mono (cc_parseLaw d rv ra rb tv ta tb (ta 21) K hT sz (ta 20) (by omega) g4 s hP g2 k hk2 hd) ?_
  rintro r W' ⟨rv', z', st', rfl, hc, hW, rfl⟩
  obtain ⟨w1, w2, w3, w4⟩ := hW
  refine ⟨rv', va_up tv 20 (nI z'), va_up (va_up ta 20 st') 21 (upd (ta 21) (ck k - 132) (nI sz)), tb, rfl, hc.mono (by decide), ⟨?_, ?_, fun q hq => ?_⟩, rfl⟩
  · have e : prs (bd (bd (bd (bd (.inr s) (mstS K k)) (mstS K 5)) (fun s2 => lawT K 4 (s2, []))) (fun q => .inr (q.1, (S.1, S.2.1, S.2.2.1, S.2.2.2.1, va_up S.2.2.2.2 (k - 24) (some q.2))))) = prl (bd (bd (bd (.inr s) (mstS K k)) (mstS K 5)) (fun s2 => lawT K 4 (s2, []))) := by
      generalize (bd (bd (bd (.inr s) (mstS K k)) (mstS K 5)) (fun s2 => lawT K 4 (s2, []))) = X
      cases X <;> rfl
    rw [e]; exact w3
  · exact ⟨S.1 24, z', h1.2.1, h7.2.2.1, rfl, by omega, w2⟩
  · obtain ⟨q0, e0, e1⟩ := bd_inrE hq
    obtain rfl := Sum.inr.inj e1
    obtain ⟨v1, v2, v3, v4⟩ := w4 q0 e0
    refine ⟨h1, h2, h3, h4, ⟨z', rfl, by show z' ≤ q0.1.1 + 4; omega, by omega, fun j hj => ?_⟩, h6, h7⟩
    rw [hck]
    by_cases hjk : j = k - 24
    · refine ⟨sz, by show upd (ta 21) (k - 24) (nI sz) j = _; rw [hjk, upd_eq], ?_⟩
      have el : lwC j (va_up S.2.2.2.2 (k - 24) (some q0.2) j) sz = stL q0.2 sz := by
        unfold va_up; rw [if_pos hjk]; rfl
      show sgC st' sz (lwC j (va_up S.2.2.2.2 (k - 24) (some q0.2) j) sz) ∧ sz + (lwC j (va_up S.2.2.2.2 (k - 24) (some q0.2) j) sz).length ≤ z'
      rw [el]
      exact ⟨v3, by omega⟩
    · obtain ⟨p, p1, p2, p3⟩ := g3 j hj
      have el : va_up S.2.2.2.2 (k - 24) (some q0.2) j = S.2.2.2.2 j := if_neg hjk
      refine ⟨p, by show upd (ta 21) (k - 24) (nI sz) j = _; rw [upd_ne hjk]; exact p1, ?_⟩
      show sgC st' p (lwC j (va_up S.2.2.2.2 (k - 24) (some q0.2) j) p) ∧ p + (lwC j (va_up S.2.2.2.2 (k - 24) (some q0.2) j) p).length ≤ z'
      rw [el]
      exact ⟨sgC_cg p2 (fun i hi => v2 i (by omega)), by omega⟩
