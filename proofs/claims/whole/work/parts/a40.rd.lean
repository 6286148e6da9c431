/-! THE CLASS: a law told -/
def prl (R : PE ⊕ (PT × List LBr)) : PE ⊕ PT := bd R (fun q => .inr q.1)
def stP : List LBr → Nat → Cde
  | [], _ => []
  | br :: r, p => match br.1 with
    | none => []
    | some cc => cc.1 ++ (cc.2 ++ ((6, p + cc.1.length + cc.2.length + 1 + br.2.length + 1) :: (br.2 ++ ((7, 0) :: stP r (p + cc.1.length + cc.2.length + 1 + br.2.length + 1)))))
def allS (bs : List LBr) : Prop := ∀ br, br ∈ bs → ∃ cc, br.1 = some cc
theorem stL_end (c : Cde) : ∀ (bs : List LBr) (p : Nat), allS bs → stL (bs ++ [(none, c)]) p = stP bs p ++ (c ++ [(7, 0)]) := by
  intro bs
  induction bs with
  | nil => intro p _; rfl
  | cons br r ih =>
    intro p h
    obtain ⟨u, c3⟩ := br
    obtain ⟨cc, hcc⟩ := h _ (List.mem_cons_self ..)
    have hcc : u = some cc := hcc
    subst hcc
    show cc.1 ++ (cc.2 ++ ((6, p + cc.1.length + cc.2.length + 1 + c3.length + 1) :: (c3 ++ ((7, 0) :: stL (r ++ [(none, c)]) (p + cc.1.length + cc.2.length + 1 + c3.length + 1))))) = (cc.1 ++ (cc.2 ++ ((6, p + cc.1.length + cc.2.length + 1 + c3.length + 1) :: (c3 ++ ((7, 0) :: stP r (p + cc.1.length + cc.2.length + 1 + c3.length + 1)))))) ++ (c ++ [(7, 0)])
    rw [ih _ (fun b hb => h b (List.mem_cons_of_mem _ hb))]
    simp only [List.append_assoc, List.cons_append]
theorem stP_app (cc : Cde × Cde) (c3 : Cde) : ∀ (bs : List LBr) (p : Nat), allS bs → stP (bs ++ [(some cc, c3)]) p = stP bs p ++ (cc.1 ++ (cc.2 ++ ((6, p + (stP bs p).length + cc.1.length + cc.2.length + 1 + c3.length + 1) :: (c3 ++ [(7, 0)])))) := by
  intro bs
  induction bs with
  | nil => intro p _; rfl
  | cons br r ih =>
    intro p h
    obtain ⟨u, d3⟩ := br
    obtain ⟨dd, hdd⟩ := h _ (List.mem_cons_self ..)
    have hdd : u = some dd := hdd
    subst hdd
    have e : stP ((some dd, d3) :: r) p = dd.1 ++ (dd.2 ++ ((6, p + dd.1.length + dd.2.length + 1 + d3.length + 1) :: (d3 ++ ((7, 0) :: stP r (p + dd.1.length + dd.2.length + 1 + d3.length + 1))))) := rfl
    have el : p + (stP ((some dd, d3) :: r) p).length = p + dd.1.length + dd.2.length + 1 + d3.length + 1 + (stP r (p + dd.1.length + dd.2.length + 1 + d3.length + 1)).length := by
      rw [e]; simp only [List.length_append, List.length_cons]; omega
    rw [el, e]
    show dd.1 ++ (dd.2 ++ ((6, p + dd.1.length + dd.2.length + 1 + d3.length + 1) :: (d3 ++ ((7, 0) :: stP (r ++ [(some cc, c3)]) (p + dd.1.length + dd.2.length + 1 + d3.length + 1))))) = _
    rw [ih _ (fun b hb => h b (List.mem_cons_of_mem _ hb))]
    simp only [List.append_assoc, List.cons_append]
/-- so far: whole branches -/
def LQc (K : TKS) (z0 : Nat) (st0 : Nat → Int32) (R : PE ⊕ (PT × List LBr)) (rv : Nat → Int32) (z : Nat) (st : Nat → Int32) : Prop := z0 ≤ z ∧ z ≤ 404 ∧ PVc K (prl R) rv ∧ ∀ q, R = .inr q → allS q.2 ∧ z = z0 + (stP q.2 z0).length ∧ (∀ i, i < z0 → st i = st0 i) ∧ sgC st z0 (stP q.2 z0) ∧ z ≤ q.1.1 + 2
/-- the whole law -/
def LWc (K : TKS) (z0 : Nat) (st0 : Nat → Int32) (R : PE ⊕ (PT × List LBr)) (rv : Nat → Int32) (z : Nat) (st : Nat → Int32) : Prop := z0 ≤ z ∧ z ≤ 404 ∧ PVc K (prl R) rv ∧ ∀ q, R = .inr q → z = z0 + (stL q.2 z0).length ∧ (∀ i, i < z0 → st i = st0 i) ∧ sgC st z0 (stL q.2 z0) ∧ z ≤ q.1.1 + 3
def brL (K : TKS) (q : PT × List LBr) : PE ⊕ (PT × List LBr) := bd (mstS K 30 q.1) (fun s1 => bd (lfE (exS K 6) s1) (fun x => bd (mstS K 13 x.1) (fun s3 => bd (lfE (exS K 6) s3) (fun y => bd (mstS K 31 y.1) (fun s5 => bd (lfE (exS K 6) s5) (fun w => bd (mstS K 32 w.1) (fun s7 => .inr (s7, q.2 ++ [(some (x.2, y.2), w.2)]))))))))
def lawT (K : TKS) (n : Nat) (q : PT × List LBr) : PE ⊕ (PT × List LBr) := bd (lawS9 K n q.1.1 q.2) (fun x => .inr ((x.1, q.1.2), x.2))
theorem brL_prj (K : TKS) (q : PT × List LBr) : prl (bd (.inr q) (brL K)) = (bd (prj (bd (bd (prj (bd (bd (prj (bd (bd (.inr q.1) (mstS K 30)) (lfE (exS K 6)))) (mstS K 13)) (lfE (exS K 6)))) (mstS K 31)) (lfE (exS K 6)))) (mstS K 32)) := by
  show prl (brL K q) = _
  unfold brL prl prj
  generalize exS K 6 = E
  try simp only [bd_inr]
  cases mstS K 30 q.1 with
  | inl e => rfl
  | inr s1 =>
    try simp only [bd_inr]
    cases lfE E s1 with
    | inl e => rfl
    | inr x =>
      try simp only [bd_inr]
      cases mstS K 13 x.1 with
      | inl e => rfl
      | inr s3 =>
        try simp only [bd_inr]
        cases lfE E s3 with
        | inl e => rfl
        | inr y =>
          try simp only [bd_inr]
          cases mstS K 31 y.1 with
          | inl e => rfl
          | inr s5 =>
            try simp only [bd_inr]
            cases lfE E s5 with
            | inl e => rfl
            | inr w =>
              try simp only [bd_inr]
              cases mstS K 32 w.1 with
              | inl e => rfl
              | inr s7 =>
                rfl
theorem law_step {K : TKS} {q : PT × List LBr} {n : Nat} (hk : K.1 q.1.1 = 30) : bd (.inr q) (lawT K (n + 1)) = bd (bd (.inr q) (brL K)) (lawT K n) := by
  show lawT K (n + 1) q = bd (brL K q) (lawT K n)
  have e : lawS9 K (n + 1) q.1.1 q.2 = bd (advN q.1.1) (fun t1 => bd (exS K 6 t1) (fun x => bd (mstN K 13 x.1) (fun t3 => bd (exS K 6 t3) (fun y => bd (mstN K 31 y.1) (fun t5 => bd (exS K 6 t5) (fun z => bd (mstN K 32 z.1) (fun t7 => lawS9 K n t7 (q.2 ++ [(some (x.2, y.2), z.2)])))))))) := if_pos hk
  unfold brL
  rw [mst_adv hk]
  unfold lawT
  rw [e]
  unfold lfE advS mstS
  generalize exS K 6 = E
  try simp only [bd_inr]
  cases advN q.1.1 with
  | inl e => rfl
  | inr t1 =>
    try simp only [bd_inr]
    cases E t1 with
    | inl e => rfl
    | inr x =>
      try simp only [bd_inr]
      cases mstN K 13 x.1 with
      | inl e => rfl
      | inr t3 =>
        try simp only [bd_inr]
        cases E t3 with
        | inl e => rfl
        | inr y =>
          try simp only [bd_inr]
          cases mstN K 31 y.1 with
          | inl e => rfl
          | inr t5 =>
            try simp only [bd_inr]
            cases E t5 with
            | inl e => rfl
            | inr w =>
              try simp only [bd_inr]
              cases mstN K 32 w.1 with
              | inl e => rfl
              | inr t7 =>
                rfl
theorem law_over {K : TKS} {q : PT × List LBr} (hk : K.1 q.1.1 = 30) : bd (.inr q) (lawT K 0) = .inl (2, q.1.1) := by
  show lawT K 0 q = _
  have e : lawS9 K 0 q.1.1 q.2 = .inl (2, q.1.1) := if_pos hk
  unfold lawT
  rw [e]; rfl
theorem law_end {K : TKS} {R : PE ⊕ (PT × List LBr)} {n : Nat} (h : ∀ q, R = .inr q → ¬ K.1 q.1.1 = 30) : bd R (lawT K n) = bd R (fun q => bd (lfE (exS K 6) q.1) (fun x => .inr (x.1, q.2 ++ [(none, x.2)]))) := by
  cases R with
  | inl e => rfl
  | inr q =>
    have h := h q rfl
    have e : lawS9 K n q.1.1 q.2 = bd (exS K 6 q.1.1) (fun x => .inr (x.1, q.2 ++ [(none, x.2)])) := by
      cases n <;> exact if_neg h
    show lawT K n q = bd (lfE (exS K 6) q.1) _
    unfold lawT lfE
    rw [e]
    generalize exS K 6 = E
    cases E q.1.1 <;> rfl
theorem seel_z {K : TKS} {R : PE ⊕ (PT × List LBr)} {k : Nat} (h : seeB K (prl R) k = 0) : ∀ q, R = .inr q → ¬ K.1 q.1.1 = k := by
  intro q e w
  subst e
  have e1 : seeB K (prl (.inr q)) k = 1 := if_pos w
  exact absurd (e1.symm.trans h) (by decide)
theorem seel_q {K : TKS} {R : PE ⊕ (PT × List LBr)} {k : Nat} (h : ¬ seeB K (prl R) k = 0) : ∃ q, R = .inr q ∧ K.1 q.1.1 = k := by
  cases R with
  | inl e => exact absurd rfl h
  | inr q =>
    refine ⟨q, rfl, ?_⟩
    by_cases w : K.1 q.1.1 = k
    · exact w
    · exact absurd (if_neg w) h
theorem EQc.nx {K : TKS} {a z z1 k : Nat} {st st1 rv1 : Nat → Int32} {R : PE ⊕ (PT × Cde)} (h : EQc K a z st R rv1 z1 st1) : ∀ s1, bd (prj R) (mstS K k) = .inr s1 → z1 + (a + 1) ≤ s1.1 + 2 := by
  intro s1 h1
  obtain ⟨s0, e0, e1⟩ := bd_inrE h1
  obtain ⟨q, e2, e3⟩ := bd_inrE e0
  obtain rfl := Sum.inr.inj e3
  have g := (h.2.2.2 q e2).2.2.2
  rw [(mstS_inr e1).2.2]
  show z1 + (a + 1) ≤ q.1.1 + 1 + 2
  omega
theorem LQc.bnd {K : TKS} {z z1 : Nat} {st st1 rv1 : Nat → Int32} {R : PE ⊕ (PT × List LBr)} (h : LQc K z st R rv1 z1 st1) : ∀ s1, prl R = .inr s1 → z1 + 0 ≤ s1.1 + 2 := by
  intro s1 h1
  obtain ⟨q, e2, e3⟩ := bd_inrE h1
  obtain rfl := Sum.inr.inj e3
  exact (h.2.2.2 q e2).2.2.2.2
theorem adZ_g {z : Nat} : z ≤ adZ z ∧ adZ z ≤ z + 1 := by unfold adZ; split <;> omega
theorem sgC_u {st : Nat → Int32} {p j : Nat} {x : Int32} {c : Cde} (h : sgC st p c) (hj : j < p ∨ p + c.length ≤ j) : sgC (upd st j x) p c := by
  intro i y hy
  rw [upd_ne (by have := (List.getElem?_eq_some_iff.mp hy).1; omega)]
  exact h i y hy
theorem LWc.fin {K : TKS} {z z1 z9 : Nat} {st st1 st9 rv1 rv9 : Nat → Int32} {R : PE ⊕ (PT × List LBr)} (hL : LQc K z st R rv1 z1 st1) (hE : EQc K 0 z1 st1 (bd (prl R) (lfE (exS K 6))) rv9 z9 st9) : LWc K z st (bd R (fun q => bd (lfE (exS K 6) q.1) (fun x => .inr (x.1, q.2 ++ [(none, x.2)])))) rv9 (adZ z9) (adS st9 z9 (stX (nI 7) (nI 0))) := by
  have ha := adZ_g (z := z9)
  refine ⟨by have := hL.1; have := hE.1; omega, adZ_le hE.2.1, ?_, fun q' hq => ?_⟩
  · have e : prl (bd R (fun q => bd (lfE (exS K 6) q.1) (fun x => .inr (x.1, q.2 ++ [(none, x.2)])))) = prj (bd (prl R) (lfE (exS K 6))) := by
      unfold prl prj
      generalize exS K 6 = E
      cases R with
      | inl e => rfl
      | inr q =>
        simp only [bd_inr]
        cases lfE E q.1 <;> rfl
    rw [e]; exact hE.2.2.1
  · obtain ⟨q, eq, hq⟩ := bd_inrE hq
    obtain ⟨x, ex, hq⟩ := bd_inrE hq
    obtain rfl := Sum.inr.inj hq
    have f1 : bd (prl R) (lfE (exS K 6)) = .inr x := by rw [eq]; exact ex
    obtain ⟨hS, p1, p2, p3, p4⟩ := hL.2.2.2 q eq
    obtain ⟨a1, a2, a3, a4⟩ := hE.2.2.2 x f1
    have hk := hE.2.2.1
    rw [f1] at hk
    have hx4 : x.1.1 ≤ 400 := (show PVc K (.inr x.1) rv9 from hk).1
    have h : z9 < 404 := by omega
    rw [adZ_lt h, adS_lt h]
    show z9 + 1 = z + (stL (q.2 ++ [(none, x.2)]) z).length ∧ _ ∧ sgC _ z (stL (q.2 ++ [(none, x.2)]) z) ∧ _
    rw [stL_end _ _ _ hS]
    refine ⟨by simp only [List.length_append, List.length_cons, List.length_nil]; omega, fun i hi => ?_, sgC_mk ?_ (sgC_mk ?_ ?_), ?_⟩
    · rw [upd_ne (by omega), a2 i (by omega)]; exact p2 i hi
    · exact sgC_u (sgC_cg p3 (fun i hi => a2 i (by omega))) (by omega)
    · rw [← p1]; exact sgC_u a3 (by omega)
    · rw [← p1, ← a1]; exact sgC_1 (by rw [upd_eq, stX_n (by decide) (by decide)])
    · show z9 + 1 ≤ x.1.1 + 3; omega
theorem LQc.br {K : TKS} {z0 z z2 z4 z6 : Nat} {st0 st st2 st4 st6 rv rv2 rv4 rv6 rv7 : Nat → Int32} {q : PT × List LBr} (h : LQc K z0 st0 (.inr q) rv z st) (h1 : EQc K 1 z st (bd (bd (.inr q.1) (mstS K 30)) (lfE (exS K 6))) rv2 z2 st2) (h2 : EQc K 2 z2 st2 (bd (bd (prj (bd (bd (.inr q.1) (mstS K 30)) (lfE (exS K 6)))) (mstS K 13)) (lfE (exS K 6))) rv4 z4 st4) (h3 : EQc K 2 (adZ z4) (adS st4 z4 (stX (nI 6) (nI 0))) (bd (bd (prj (bd (bd (prj (bd (bd (.inr q.1) (mstS K 30)) (lfE (exS K 6)))) (mstS K 13)) (lfE (exS K 6)))) (mstS K 31)) (lfE (exS K 6))) rv6 z6 st6) (h4 : PVc K (bd (prj (bd (bd (prj (bd (bd (prj (bd (bd (.inr q.1) (mstS K 30)) (lfE (exS K 6)))) (mstS K 13)) (lfE (exS K 6)))) (mstS K 31)) (lfE (exS K 6)))) (mstS K 32)) rv7) : LQc K z0 st0 (bd (.inr q) (brL K)) rv7 (adZ z6) (upd (adS st6 z6 (stX (nI 7) (nI 0))) (adZ z4 - 1) (stX (nI 6) (nI (adZ z6)))) := by
  obtain ⟨g1, g2, g3, g4⟩ := h
  obtain ⟨hS, p1, p2, p3, p4⟩ := g4 q rfl
  have ha4 := adZ_g (z := z4)
  have ha6 := adZ_g (z := z6)
  refine ⟨by have := h1.1; have := h2.1; have := h3.1; omega, adZ_le h3.2.1, by rw [brL_prj]; exact h4, fun q' hq => ?_⟩
  have hq : brL K q = .inr q' := hq
  unfold brL at hq
  obtain ⟨s1, e1, hq⟩ := bd_inrE hq
  obtain ⟨x, e2, hq⟩ := bd_inrE hq
  obtain ⟨s3, e3, hq⟩ := bd_inrE hq
  obtain ⟨y, e4, hq⟩ := bd_inrE hq
  obtain ⟨s5, e5, hq⟩ := bd_inrE hq
  obtain ⟨w, e6, hq⟩ := bd_inrE hq
  obtain ⟨s7, e7, hq⟩ := bd_inrE hq
  obtain rfl := Sum.inr.inj hq
  have f1 : (bd (bd (.inr q.1) (mstS K 30)) (lfE (exS K 6))) = .inr x := by
    show bd (mstS K 30 q.1) _ = _
    rw [e1]; exact e2
  rw [f1] at h1 h2 h3
  have f2 : bd (bd (prj (.inr x)) (mstS K 13)) (lfE (exS K 6)) = .inr y := by
    show bd (mstS K 13 x.1) _ = _
    rw [e3]; exact e4
  rw [f2] at h2 h3
  have f3 : bd (bd (prj (.inr y)) (mstS K 31)) (lfE (exS K 6)) = .inr w := by
    show bd (mstS K 31 y.1) _ = _
    rw [e5]; exact e6
  rw [f3] at h3
  have hy4 : y.1.1 ≤ 400 := (show PVc K (.inr y.1) rv4 from h2.2.2.1).1
  have hw4 : w.1.1 ≤ 400 := (show PVc K (.inr w.1) rv6 from h3.2.2.1).1
  obtain ⟨a1, a2, a3, a4⟩ := h1.2.2.2 x rfl
  obtain ⟨b1, b2, b3, b4⟩ := h2.2.2.2 y rfl
  obtain ⟨c1, c2, c3, c4⟩ := h3.2.2.2 w rfl
  have hz4 : z4 < 404 := by omega
  have hz6 : z6 < 404 := by omega
  rw [adZ_lt hz4] at c1 c2 c3
  rw [adS_lt hz4] at c2
  rw [adZ_lt hz4, adZ_lt hz6, adS_lt hz6, Nat.add_sub_cancel]
  have hs7 : s7.1 = w.1.1 + 1 := by rw [(mstS_inr e7).2.2]
  show allS (q.2 ++ [(some (x.2, y.2), w.2)]) ∧ z6 + 1 = z0 + (stP (q.2 ++ [(some (x.2, y.2), w.2)]) z0).length ∧ _ ∧ sgC _ z0 (stP (q.2 ++ [(some (x.2, y.2), w.2)]) z0) ∧ z6 + 1 ≤ s7.1 + 2
  rw [stP_app _ _ _ _ hS]
  refine ⟨fun br hb => ?_, by simp only [List.length_append, List.length_cons, List.length_nil]; omega, fun i hi => ?_, sgC_mk ?_ (sgC_mk ?_ (sgC_mk ?_ ?_)), by omega⟩
  · rcases List.mem_append.mp hb with hb | hb
    · exact hS br hb
    · rw [List.mem_singleton.mp hb]; exact ⟨_, rfl⟩
  · rw [upd_ne (by omega), upd_ne (by omega), c2 i (by omega), upd_ne (by omega), b2 i (by omega), a2 i (by omega)]; exact p2 i hi
  · exact sgC_u (sgC_u (sgC_cg p3 (fun i hi => by rw [c2 i (by omega), upd_ne (by omega), b2 i (by omega)]; exact a2 i (by omega))) (by omega)) (by omega)
  · rw [← p1]
    show sgC _ z x.2
    exact sgC_u (sgC_u (sgC_cg a3 (fun i hi => by rw [c2 i (by omega), upd_ne (by omega)]; exact b2 i (by omega))) (by omega)) (by omega)
  · rw [← p1]
    show sgC _ (z + x.2.length) y.2
    rw [← a1]
    exact sgC_u (sgC_u (sgC_cg b3 (fun i hi => by rw [c2 i (by omega)]; exact upd_ne (by omega))) (by omega)) (by omega)
  · rw [← p1]
    show sgC _ (z + x.2.length + y.2.length) ([(6, z + x.2.length + y.2.length + 1 + w.2.length + 1)] ++ (w.2 ++ [(7, 0)]))
    rw [← a1, ← b1]
    refine sgC_mk (sgC_1 ?_) (sgC_mk ?_ ?_)
    · rw [upd_eq, stX_n (by decide) (by omega), c1]
    · exact sgC_u (sgC_u c3 (by show _ < z4 + 1 ∨ z4 + 1 + _ ≤ z6; omega)) (by show z4 < z4 + 1 ∨ _; omega)
    · show sgC _ (z4 + 1 + w.2.length) [(7, 0)]
      rw [← c1]
      exact sgC_1 (by rw [upd_ne (by omega), upd_eq, stX_n (by decide) (by decide)])
