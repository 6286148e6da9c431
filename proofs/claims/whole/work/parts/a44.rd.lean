/-! THE CLASS: a text's begin and end -/
theorem RQc.bad {K : TKS} {T : PE ⊕ (PT × SD)} {rv tv : Nat → Int32} {ta : Nat → Nat → Int32} {tb : Nat → Nat → Int64} (h : RQc K T rv tv ta tb) (h9 : ¬ rv 9 = 0) : ∃ e, T = .inl e := by
  cases T with
  | inl e => exact ⟨e, rfl⟩
  | inr q => exact absurd h.1.2.2.1 h9
theorem RQc.good {K : TKS} {T : PE ⊕ (PT × SD)} {rv tv : Nat → Int32} {ta : Nat → Nat → Int32} {tb : Nat → Nat → Int64} (h : RQc K T rv tv ta tb) (h9 : rv 9 = 0) : ∃ q, T = .inr q := by
  cases T with
  | inl e => exact absurd h9 h.1.no
  | inr q => exact ⟨q, rfl⟩
theorem lex_end {B : Nat → Nat} {n k : Nat} (h : (lexK B n).1 k = 0) : (lexK B n).2.1 k = n := by
  have h1 := pos_le B n k
  by_cases h2 : posK B n k < n
  · have h3 : (tkA B n (posK B n k)).1 = 0 := by
      have e : (lexK B n).1 k = (tkA B n (posK B n k)).1 := if_pos h2
      rw [← e]; exact h
    have := (tkA_kind B n (posK B n k)).1
    omega
  · show posK B n k = n
    omega
theorem RDc_plain {tv : Nat → Int32} {ta : Nat → Nat → Int32} {tb : Nat → Nat → Int64} {st bg : Nat → Int32} (ht : tv 0 = nI 3 ∧ tv 1 = nI 0 ∧ tv 2 = nI 0 ∧ tv 3 = nI 0 ∧ tv 4 = nI 12 ∧ tv 5 = nI 5 ∧ tv 6 = nI 0 ∧ tv 20 = nI 4) (hs : st 0 = nI 1 ∧ st 1 = nI 7 ∧ st 2 = nI 0 ∧ st 3 = nI 7) (hb : bg 0 = nI 0 ∧ bg 1 = nI 2 ∧ bg 2 = nI 2) : RDc plainD 0 tv (va_up (va_up ta 20 st) 21 bg) tb := by
  refine ⟨⟨ht.1, ht.2.1, ht.2.2.1, ht.2.2.2.1, ht.2.2.2.2.1, ht.2.2.2.2.2.1, ht.2.2.2.2.2.2.1⟩, fun i hi => absurd hi (Nat.not_lt_zero _), fun i hi => absurd hi (Nat.not_lt_zero _), fun i e he => ?_, ⟨4, ht.2.2.2.2.2.2.2, Nat.le_refl _, Nat.le_refl _, fun k hk => ?_⟩, ⟨fun i x hx => ?_, fun i x hx => ?_, fun x => rfl⟩, rfl, rfl, Nat.zero_le _, Nat.zero_le _, Nat.zero_le _, rfl⟩
  · have he : ([] : List (Option (Nat × Nat)))[i]? = some e := he
    simp at he
  · rcases (show k = 0 ∨ k = 1 ∨ k = 2 by omega) with rfl | rfl | rfl
    · refine ⟨0, hb.1, ?_, by decide⟩
      exact sgC_mk (c := [(1, 0)]) (c2 := [(7, 0)]) (sgC_1 hs.1) (sgC_1 hs.2.1)
    · refine ⟨2, hb.2.1, ?_, by decide⟩
      exact sgC_mk (c := [(0, 0)]) (c2 := [(7, 0)]) (sgC_1 hs.2.2.1) (sgC_1 hs.2.2.2)
    · refine ⟨2, hb.2.2, ?_, by decide⟩
      exact sgC_mk (c := [(0, 0)]) (c2 := [(7, 0)]) (sgC_1 hs.2.2.1) (sgC_1 hs.2.2.2)
  · have hx : ([] : List (List Nat))[i]? = some x := hx
    simp at hx
  · have hx : ([] : List (List Nat))[i]? = some x := hx
    simp at hx
theorem out_is {q : PT × SD} {t : Nat} {tv : Nat → Int32} {ta : Nat → Nat → Int32} {tb : Nat → Nat → Int64} (h : RDc q.2 t tv ta tb) (hb : bigS q.2) : (findN (fun i => decide (tv 0 ≤ ta 11 i)) (q.2.1 24) 0).isSome = true ↔ outP q = true := by
  have key : ∀ i, i < q.2.1 24 → (tv 0 ≤ ta 11 i ↔ q.2.1 23 ≤ q.2.2.1 28 i) := by
    intro i hi
    rw [h.1.1, (h.2.1 i hi).2.2.2]
    exact nI_leI (by have := hb.1; omega) (by have := hb.2 i hi; omega)
  unfold outP
  constructor
  · intro hs
    obtain ⟨j, hj⟩ := Option.isSome_iff_exists.mp hs
    obtain ⟨-, h2, h3⟩ := findN_some _ _ _ hj
    exact List.any_eq_true.mpr ⟨j, List.mem_range.mpr (by omega), decide_eq_true ((key j (by omega)).mp (of_decide_eq_true h3))⟩
  · intro hs
    obtain ⟨j, hj, h3⟩ := List.any_eq_true.mp hs
    have hj := List.mem_range.mp hj
    exact findN_is _ _ j (Nat.zero_le _) (by omega) (decide_eq_true ((key j hj).mpr (of_decide_eq_true h3)))
theorem PVc.w {K : TKS} {s : PT} {rv : Nat → Int32} (h : PVc K (.inr s) rv) : (s.2 = none ∧ rv 10 = nI 0) ∨ ∃ x, s.2 = some x ∧ rv 10 = nI x.1 ∧ rv 11 = nI x.2 ∧ 3 ≤ x.1 ∧ x.1 ≤ 5 := by
  obtain ⟨t, w⟩ := s
  cases w with
  | none => exact .inl ⟨rfl, h.2.2.2.2⟩
  | some x => exact .inr ⟨x, rfl, h.2.2.2.2⟩
/-- what a text is read as: the fault's number and place, or what is told -/
def rdQ (K : TKS) (x : Int32) (rv tv : Nat → Int32) (ta : Nat → Nat → Int32) (tb : Nat → Nat → Int64) : Prop := match readS K with
  | .inl e => rv 1 = nI e.2 ∧ x = nI e.1 ∧ 1 ≤ e.1 ∧ e.1 ≤ 5
  | .inr S => rv 1 = -1 ∧ x = nI 0 ∧ RDc S 400 tv ta tb
theorem rdQ_F {K : TKS} {e : PE} {rv tv : Nat → Int32} {ta : Nat → Nat → Int32} {tb : Nat → Nat → Int64} (hT : (txtS K 400 ((0, none), plainD)) = .inl e) (hP : PVc K (.inl e) rv) : rdQ K (rv 9) rv tv ta tb := by
  have er : readS K = .inl (e.1, K.2.1 e.2) := by unfold readS; rw [hT]
  unfold rdQ
  rw [er]
  exact ⟨hP.2.2.1, hP.1, by have := hP.2.1; show 1 ≤ e.1; omega, by have := hP.2.1; show e.1 ≤ 5; omega⟩
theorem rd_N {K : TKS} {q : PT × SD} (hT : (txtS K 400 ((0, none), plainD)) = .inr q) (hw : (endS K q).1.2 = none) : readS K = .inr q.2 := by
  unfold readS; rw [hT]
  show (match (endS K q).1.2 with | some w => Sum.inl w | none => Sum.inr (endS K q).2) = _
  rw [hw]; rfl
theorem rd_S {K : TKS} {q : PT × SD} {x : PE} (hT : (txtS K 400 ((0, none), plainD)) = .inr q) (hw : (endS K q).1.2 = some x) : readS K = .inl x := by
  unfold readS; rw [hT]
  show (match (endS K q).1.2 with | some w => Sum.inl w | none => Sum.inr (endS K q).2) = _
  rw [hw]
theorem rdQ_N {K : TKS} {q : PT × SD} {rv tv : Nat → Int32} {ta : Nat → Nat → Int32} {tb : Nat → Nat → Int64} (hT : (txtS K 400 ((0, none), plainD)) = .inr q) (hP : PVc K (.inr (endS K q).1) rv) (hR : RDc q.2 q.1.1 tv ta tb) (h10 : rv 10 = 0) : rdQ K (rv 9) (va_up rv 1 (-1)) tv ta tb := by
  rcases hP.w with ⟨hw, -⟩ | ⟨x, hw, h1, h2, h3, h4⟩
  · have er := rd_N hT hw
    unfold rdQ
    rw [er]
    exact ⟨rfl, hP.2.2.1, hR.mono hP.1⟩
  · rw [h10] at h1
    have := (nI_eq (a := 0) (b := x.1) (by omega) (by omega)).mp h1
    omega
theorem rdQ_S {K : TKS} {q : PT × SD} {rv tv : Nat → Int32} {ta : Nat → Nat → Int32} {tb : Nat → Nat → Int64} (hT : (txtS K 400 ((0, none), plainD)) = .inr q) (hP : PVc K (.inr (endS K q).1) rv) (h10 : ¬ rv 10 = 0) : rdQ K (rv 10) (va_up (va_up rv 9 (rv 10)) 1 (rv 11)) tv ta tb := by
  rcases hP.w with ⟨hw, h0⟩ | ⟨x, hw, h1, h2, h3, h4⟩
  · exact absurd h0 h10
  · have er := rd_S hT hw
    unfold rdQ
    rw [er]
    exact ⟨h2, h1, by omega, h4⟩
theorem end_P {K : TKS} {q : PT × SD} {rv : Nat → Int32} (hP : PVc K (.inr q.1) rv) (h0 : rv 0 = nI (K.2.1 q.1.1)) : (outP q = true → PVc K (.inr (endS K q).1) (ntV rv (nI 5) (rv 0))) ∧ (¬ outP q = true → PVc K (.inr (endS K q).1) rv) := by
  unfold endS
  constructor
  · intro h
    show PVc K (.inr (q.1.1, if outP q = true then noteS q.1.2 5 (K.2.1 q.1.1) else q.1.2)) _
    rw [if_pos h, h0]
    exact PVc.ntS hP (by omega)
  · intro h
    show PVc K (.inr (q.1.1, if outP q = true then noteS q.1.2 5 (K.2.1 q.1.1) else q.1.2)) _
    rw [if_neg h]
    exact hP
