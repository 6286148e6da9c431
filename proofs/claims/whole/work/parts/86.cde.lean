/-! what codes reckon -/
def evC (vars : Nat → Int32) : Cde → List Int32 → Option (List Int32)
  | [], s => some s
  | z :: c, s => if z.1 = 0 then evC vars c (nI z.2 :: s) else if z.1 = 1 then evC vars c (vars z.2 :: s) else match s with
    | y :: x :: r => if z.1 = 5 ∧ y = 0 then none else evC vars c (opF (nI z.1) x y :: r)
    | _ => none
theorem ev0 {vars : Nat → Int32} {z : Nat × Nat} {c : Cde} {s : List Int32} (h : z.1 = 0) : evC vars (z :: c) s = evC vars c (nI z.2 :: s) := if_pos h
theorem ev1 {vars : Nat → Int32} {z : Nat × Nat} {c : Cde} {s : List Int32} (h : z.1 = 1) : evC vars (z :: c) s = evC vars c (vars z.2 :: s) := (if_neg (by omega)).trans (if_pos h)
theorem evO {vars : Nat → Int32} {z : Nat × Nat} {c : Cde} {s : List Int32} {x y : Int32} (h : 2 ≤ z.1) : evC vars (z :: c) (y :: x :: s) = if z.1 = 5 ∧ y = 0 then none else evC vars c (opF (nI z.1) x y :: s) := (if_neg (by omega)).trans (if_neg (by omega))
def hgC (cap e : Nat) : Cde → Nat → Prop
  | [], dp => dp = e
  | z :: c, dp => (z.1 = 0 ∧ z.2 < 10000 ∧ dp < cap ∧ hgC cap e c (dp + 1)) ∨ (z.1 = 1 ∧ z.2 < 9 ∧ dp < cap ∧ hgC cap e c (dp + 1)) ∨ ((z.1 = 2 ∨ z.1 = 3 ∨ z.1 = 4 ∨ z.1 = 5) ∧ z.2 = 0 ∧ 2 ≤ dp ∧ dp ≤ cap ∧ hgC cap e c (dp - 1))
def EX (h : Nat) (c : Cde) : Prop := (∀ vars, ∃ r : Option Int32, ∀ c2 s, evC vars (c ++ c2) s = match r with
    | some x => evC vars c2 (x :: s)
    | none => none) ∧ ∀ dp cap e c2, dp + h ≤ cap → hgC cap e c2 (dp + 1) → hgC cap e (c ++ c2) dp
theorem EX.mono {h h' : Nat} {c : Cde} (hc : EX h c) (hh : h ≤ h') : EX h' c := ⟨hc.1, fun dp cap e c2 h1 h2 => hc.2 dp cap e c2 (by omega) h2⟩
theorem EX_int {x : Nat} (hx : x < 10000) : EX 1 [(0, x)] := by
  refine ⟨fun vars => ⟨some (nI x), fun c2 s => ?_⟩, fun dp cap e c2 h1 h2 => Or.inl ⟨rfl, hx, by omega, h2⟩⟩
  show (if (0, x).1 = 0 then _ else _) = _
  rw [if_pos rfl]; rfl
theorem EX_var {x : Nat} (hx : x < 9) : EX 1 [(1, x)] := by
  refine ⟨fun vars => ⟨some (vars x), fun c2 s => ?_⟩, fun dp cap e c2 h1 h2 => Or.inr (Or.inl ⟨rfl, hx, by omega, h2⟩)⟩
  show (if (1, x).1 = 0 then _ else if (1, x).1 = 1 then _ else _) = _
  rw [if_neg (by show ¬ 1 = 0; decide), if_pos rfl]; rfl
theorem EX_op {h1 h2 h z : Nat} {c1 c2 : Cde} (g1 : EX h1 c1) (g2 : EX h2 c2) (e1 : h1 ≤ h) (e2 : h2 + 1 ≤ h) (hh : 2 ≤ h) (hz : z = 2 ∨ z = 3 ∨ z = 4 ∨ z = 5) : EX h (c1 ++ c2 ++ [(z, 0)]) := by
  refine ⟨fun vars => ?_, fun dp cap e c3 k1 k2 => ?_⟩
  · obtain ⟨r1, q1⟩ := g1.1 vars
    obtain ⟨r2, q2⟩ := g2.1 vars
    cases r1 with
    | none => exact ⟨none, fun c3 s => by rw [List.append_assoc, List.append_assoc, q1]⟩
    | some x =>
      cases r2 with
      | none => exact ⟨none, fun c3 s => by rw [List.append_assoc, List.append_assoc, q1]; show evC vars (c2 ++ _) (x :: s) = none; rw [q2]⟩
      | some y =>
        have key : ∀ c3 s, evC vars (c1 ++ c2 ++ [(z, 0)] ++ c3) s = if z = 5 ∧ y = 0 then none else evC vars c3 (opF (nI z) x y :: s) := by
          intro c3 s
          rw [List.append_assoc, List.append_assoc, q1]
          show evC vars (c2 ++ _) (x :: s) = _
          rw [q2]
          show evC vars ((z, 0) :: c3) (y :: x :: s) = _
          show (if z = 0 then _ else if z = 1 then _ else _) = _
          rw [if_neg (by omega), if_neg (by omega)]
        by_cases hc : z = 5 ∧ y = 0
        · exact ⟨none, fun c3 s => by rw [key, if_pos hc]⟩
        · exact ⟨some (opF (nI z) x y), fun c3 s => by rw [key, if_neg hc]⟩
  · rw [List.append_assoc, List.append_assoc]
    refine g1.2 dp cap e _ (by omega) (g2.2 (dp + 1) cap e _ (by omega) ?_)
    exact Or.inr (Or.inr ⟨hz, rfl, by omega, by omega, k2⟩)
theorem EX_lp {K : TKS} {P : Nat → PE ⊕ (Nat × Cde)} {op : Nat → Option Nat} {h : Nat} (hh : 1 ≤ h) (hP : ∀ t x, P t = .inr x → EX h x.2) (hop : ∀ k z, op k = some z → z = 2 ∨ z = 3 ∨ z = 4 ∨ z = 5) : ∀ f t c x, lpS K P op f t c = .inr x → EX (h + 1) c → EX (h + 1) x.2 := by
  intro f
  induction f with
  | zero => intro t c x h1 h2; cases h1; exact h2
  | succ f ih =>
    intro t c x h1 h2
    unfold lpS at h1
    cases hz : op (K.1 t) with
    | none => rw [hz] at h1; cases h1; exact h2
    | some z =>
      rw [hz] at h1
      obtain ⟨t1, -, h1⟩ := bd_inrE h1
      obtain ⟨y, g2, h1⟩ := bd_inrE h1
      exact ih y.1 _ x h1 (EX_op h2 (hP _ _ g2) (Nat.le_refl _) (Nat.le_refl _) (by omega) (hop _ _ hz))
theorem EX_all {K : TKS} (hV : smV K) : ∀ k t x, exS K k t = .inr x → EX (2 * k + 3) x.2 := by
  have opP_z : ∀ k z, opP k = some z → z = 2 ∨ z = 3 ∨ z = 4 ∨ z = 5 := by
    intro k z h
    unfold opP at h
    by_cases h1 : k = 10
    · rw [if_pos h1] at h; cases h; omega
    · rw [if_neg h1] at h
      by_cases h2 : k = 15
      · rw [if_pos h2] at h; cases h; omega
      · rw [if_neg h2] at h; cases h
  have opM_z : ∀ k z, opM k = some z → z = 2 ∨ z = 3 ∨ z = 4 ∨ z = 5 := by
    intro k z h
    unfold opM at h
    by_cases h1 : k = 8
    · rw [if_pos h1] at h; cases h; omega
    · rw [if_neg h1] at h
      by_cases h2 : k = 9
      · rw [if_pos h2] at h; cases h; omega
      · rw [if_neg h2] at h; cases h
  have hS : ∀ k, (∀ t x, unS K (subk K k) t = .inr x → EX (2 * k + 1) x.2) → ∀ t x, exS K k t = .inr x → EX (2 * k + 3) x.2 := by
    intro k hU t x h
    have hR : ∀ t x, prS K (subk K k) t = .inr x → EX (2 * k + 2) x.2 := by
      intro t x h
      obtain ⟨y, h1, h2⟩ := bd_inrE h
      exact EX_lp (by omega) hU opP_z _ _ _ _ h2 ((hU _ _ h1).mono (by omega))
    rw [exS_sm] at h
    obtain ⟨y, h1, h2⟩ := bd_inrE h
    exact EX_lp (by omega) hR opM_z _ _ _ _ h2 ((hR _ _ h1).mono (by omega))
  have hU1 : ∀ k t x, K.1 t ≠ 6 → unS K (subk K k) t = .inr x → EX (2 * k + 1) x.2 := by
    intro k t x h6 h
    rw [unS_unK K _ t h6] at h
    cases hz : unK K t with
    | none => rw [hz] at h; cases h
    | some z =>
      rw [hz] at h
      obtain ⟨t1, -, h⟩ := bd_inrE h
      cases h
      unfold unK at hz
      by_cases h2 : K.1 t = 2
      · rw [if_pos h2] at hz; cases hz; exact (EX_int (hV t)).mono (by omega)
      · rw [if_neg h2] at hz
        by_cases h3 : 33 ≤ K.1 t ∧ K.1 t ≤ 41
        · rw [if_pos h3] at hz; cases hz; exact (EX_var (by omega)).mono (by omega)
        · rw [if_neg h3] at hz; cases hz
  intro k
  induction k with
  | zero =>
    refine hS 0 (fun t x h => ?_)
    by_cases h6 : K.1 t = 6
    · unfold unS at h; rw [if_pos h6] at h; cases h
    · exact hU1 0 t x h6 h
  | succ k ih =>
    refine hS (k + 1) (fun t x h => ?_)
    by_cases h6 : K.1 t = 6
    · unfold unS at h
      rw [if_pos h6] at h
      obtain ⟨t1, -, h⟩ := bd_inrE h
      obtain ⟨y, h1, h⟩ := bd_inrE h
      obtain ⟨t3, -, h⟩ := bd_inrE h
      cases h
      exact (ih _ _ h1).mono (by omega)
    · exact hU1 (k + 1) t x h6 h
theorem EXc.EX {c : Cde} (h : EXc c) : EX 15 c := by
  obtain ⟨K, t, t', hV, -, he⟩ := h
  exact EX_all hV 6 t (t', c) he
def evV (vars : Nat → Int32) (c : Cde) : Option Int32 := (evC vars c []).bind (fun s => s.head?)
def lawV (vars : Nat → Int32) : List LBr → Int32
  | [] => 0
  | br :: r => match br.1 with
    | none => (evV vars br.2).getD 0
    | some cc => match evV vars cc.1, evV vars cc.2 with
      | some x, some y => if x < y then (evV vars br.2).getD 0 else lawV vars r
      | _, _ => 0
theorem EX_ev {h : Nat} {c : Cde} (hE : EX h c) (vars : Nat → Int32) : ∀ c2 s, evC vars (c ++ c2) s = match evV vars c with
    | some x => evC vars c2 (x :: s)
    | none => none := by
  obtain ⟨r, hr⟩ := hE.1 vars
  have h1 : evV vars c = r := by
    unfold evV
    have h2 := hr [] []
    rw [List.append_nil] at h2
    rw [h2]
    cases r <;> rfl
  intro c2 s
  rw [h1]; exact hr c2 s
/-! the reference's terms -/
theorem wfC_of {a : Nat → Nat → Int32} : ∀ (c : Cde) (q dp : Nat), segR a q c → hgC 400 1 c dp → wfC (a 47) (a 48) c.length q dp := by
  intro c
  induction c with
  | nil => intro q dp _ h; exact h
  | cons z c ih =>
    intro q dp hs h
    have h0 := hs 0 z rfl
    have hs' : segR a (q + 1) c := fun i x hi => by have := hs (i + 1) x hi; rw [show q + (i + 1) = q + 1 + i by omega] at this; exact this
    rw [Nat.add_zero] at h0
    show wfC _ _ (c.length + 1) q dp
    rcases h with ⟨h1, h2, h3, h4⟩ | ⟨h1, h2, h3, h4⟩ | ⟨h1, -, h2, h3, h4⟩
    · exact Or.inl ⟨by rw [h0.1, h1], h3, ih _ _ hs' h4⟩
    · exact Or.inr (Or.inl ⟨by rw [h0.1, h1], h3, ⟨z.2, h2, h0.2⟩, ih _ _ hs' h4⟩)
    · refine Or.inr (Or.inr ⟨h2, h3, ?_, ih _ _ hs' h4⟩)
      rw [h0.1]
      rcases h1 with h1 | h1 | h1 | h1 <;> rw [h1]
      · exact Or.inl rfl
      · exact Or.inr (Or.inl rfl)
      · exact Or.inr (Or.inr (Or.inl rfl))
      · exact Or.inr (Or.inr (Or.inr rfl))
def lstP (pile : Nat → Int32) : Nat → List Int32
  | 0 => []
  | n + 1 => pile n :: lstP pile n
theorem lstP_up (pile : Nat → Int32) (x : Int32) : ∀ n m, n ≤ m → lstP (upd pile m x) n = lstP pile n := by
  intro n
  induction n with
  | zero => intro m _; rfl
  | succ n ih => intro m h; show upd pile m x n :: _ = pile n :: _; rw [pk_un (by omega), ih m (by omega)]
theorem tmF_ev {a : Nat → Nat → Int32} (vars : Nat → Int32) : ∀ (c : Cde) (q top : Nat) (pile : Nat → Int32), segR a q c → hgC 400 1 c top → tmF (a 47) (a 48) vars c.length q pile top = (evC vars c (lstP pile top)).bind (fun s => s.head?) := by
  intro c
  induction c with
  | nil =>
    intro q top pile _ h
    have h : top = 1 := h
    subst h
    rfl
  | cons z c ih =>
    intro q top pile hs h
    have h0 := hs 0 z rfl
    have hs' : segR a (q + 1) c := fun i x hi => by have := hs (i + 1) x hi; rw [show q + (i + 1) = q + 1 + i by omega] at this; exact this
    rw [Nat.add_zero] at h0
    show tmF _ _ _ (c.length + 1) q pile top = _
    unfold tmF
    rw [h0.1, h0.2]
    rcases h with ⟨h1, h2, h3, h4⟩ | ⟨h1, h2, h3, h4⟩ | ⟨h1, -, h2, h3, h4⟩
    · rw [if_pos (by rw [h1]), ih _ _ _ hs' h4, ev0 h1]
      show (evC vars c (upd pile top _ top :: lstP _ top)).bind _ = _
      rw [pk_us, lstP_up _ _ _ _ (Nat.le_refl _)]
    · rw [if_neg (by rw [h1]; exact nI_ne (by decide) (by decide) (by decide)), if_pos (by rw [h1]), ih _ _ _ hs' h4, ev1 h1]
      show (evC vars c (upd pile top _ top :: lstP _ top)).bind _ = _
      rw [pk_us, lstP_up _ _ _ _ (Nat.le_refl _), nI_clamp (by omega)]
    · have hz0 : ¬ nI z.1 = nI 0 := nI_ne (by omega) (by decide) (by omega)
      have hz1 : ¬ nI z.1 = nI 1 := nI_ne (by omega) (by decide) (by omega)
      obtain ⟨m, rfl⟩ : ∃ m, top = m + 2 := ⟨top - 2, by omega⟩
      rw [if_neg hz0, if_neg hz1, show lstP pile (m + 2) = pile (m + 1) :: pile m :: lstP pile m from rfl, evO (by omega), show m + 2 - 1 = m + 1 by omega, show m + 1 - 1 = m by omega]
      have h5 : (nI z.1 = nI 5) ↔ z.1 = 5 := nI_eq (by omega) (by decide)
      by_cases hc : z.1 = 5 ∧ pile (m + 1) = 0
      · rw [if_pos hc, if_pos ⟨h5.mpr hc.1, hc.2⟩]; rfl
      · rw [if_neg hc, if_neg (fun w => hc ⟨h5.mp w.1, w.2⟩), ih _ (m + 1) _ hs' h4]
        show (evC vars c (upd pile m _ m :: lstP _ m)).bind _ = _
        rw [pk_us, lstP_up _ _ _ _ (Nat.le_refl _)]
theorem hg_of {c : Cde} (h : EXc c) : hgC 400 1 c 0 := by
  have h1 := h.EX.2 0 400 1 [] (by decide) rfl
  rw [List.append_nil] at h1; exact h1
theorem tm0_ev {a : Nat → Nat → Int32} {vars : Nat → Int32} {q : Nat} {c : Cde} (hs : segR a q c) (h : EXc c) : tm0 (a 47) (a 48) vars q c.length = evV vars c := tmF_ev vars c q 0 _ hs (hg_of h)
theorem brR_wf {a : Nat → Nat → Int32} {lo hi f : Nat} {br : LBr} (h : brR a lo hi f br) (hc : lbC br) (hi9 : hi ≤ 840) : wfB a f := by
  unfold brR at h
  cases hb : br.1 with
  | none =>
    rw [hb] at h
    obtain ⟨q, h1, h2, h3, h4, h5, h6⟩ := h
    exact ⟨q, br.2.length, h4, h5, by omega, wfC_of _ _ _ h6 (hg_of hc.1), Or.inl h3⟩
  | some cc =>
    rw [hb] at h
    obtain ⟨q, h1, h2, h3, h4, h5, h6, h7, h8, h9, h10⟩ := h
    have hcc := hc.2 cc hb
    exact ⟨_, _, h6, h7, by omega, wfC_of _ _ _ h10 (hg_of hc.1), Or.inr ⟨by rw [h3]; exact nI_nz (k := 1) (by decide) (by decide), q, cc.1.length, cc.2.length, h4, h5, rfl, wfC_of _ _ _ h8 (hg_of hcc.1), wfC_of _ _ _ h9 (hg_of hcc.2)⟩⟩
theorem lwF_ev {a : Nat → Nat → Int32} {lo hi : Nat} (hi9 : hi ≤ 840) (vars : Nat → Int32) : ∀ (bs : List LBr) (f : Nat), (∀ i br, bs[i]? = some br → brR a lo hi (f + i) br) → (∀ br, br ∈ bs → lbC br) → lwF a vars bs.length f = lawV vars bs := by
  intro bs
  induction bs with
  | nil => intro f _ _; rfl
  | cons br bs ih =>
    intro f hb hc
    have h0 := hb 0 br rfl
    rw [Nat.add_zero] at h0
    have ih9 := ih (f + 1) (fun i b hi => by have := hb (i + 1) b hi; rw [show f + (i + 1) = f + 1 + i by omega] at this; exact this) (fun b hb => hc b (List.mem_cons_of_mem _ hb))
    have hcb := hc br List.mem_cons_self
    show lwF a vars (bs.length + 1) f = _
    have eL : ∀ (o : Option (Cde × Cde)), br.1 = o → lawV vars (br :: bs) = (match o with
      | none => (evV vars br.2).getD 0
      | some cc => match evV vars cc.1, evV vars cc.2 with
        | some x, some y => if x < y then (evV vars br.2).getD 0 else lawV vars bs
        | _, _ => 0) := fun o e => by rw [← e]; rfl
    unfold lwF
    unfold brR at h0
    cases hbr : br.1 with
    | none =>
      rw [hbr] at h0
      obtain ⟨q, h1, h2, h3, h4, h5, h6⟩ := h0
      rw [eL _ hbr, if_pos (show a 41 f = 0 from h3), h4, h5, show ixN (nI q) = q from nI_clamp (by omega), show ixN (nI (q + br.2.length)) = q + br.2.length from nI_clamp (by omega), show q + br.2.length - q = br.2.length by omega, tm0_ev h6 hcb.1]
    | some cc =>
      rw [hbr] at h0
      obtain ⟨q, h1, h2, h3, h4, h5, h6, h7, h8, h9, h10⟩ := h0
      have hcc := hcb.2 cc hbr
      rw [eL _ hbr, if_neg (by rw [h3]; exact nI_nz (k := 1) (by decide) (by decide)), h4, h5, h6, h7, show ixN (nI q) = q from nI_clamp (by omega), show ixN (nI (q + cc.1.length)) = q + cc.1.length from nI_clamp (by omega), show ixN (nI (q + cc.1.length + cc.2.length)) = q + cc.1.length + cc.2.length from nI_clamp (by omega), show ixN (nI (q + cc.1.length + cc.2.length + br.2.length)) = q + cc.1.length + cc.2.length + br.2.length from nI_clamp (by omega), show q + cc.1.length - q = cc.1.length by omega, show q + cc.1.length + cc.2.length - (q + cc.1.length) = cc.2.length by omega, show q + cc.1.length + cc.2.length + br.2.length - (q + cc.1.length + cc.2.length) = br.2.length by omega, tm0_ev h8 hcc.1, tm0_ev h9 hcc.2, tm0_ev h10 hcb.1, ih9]
      rfl
theorem LwR_wf {a : Nat → Nat → Int32} {lv B Q at' : Nat} {lw : Option (List LBr)} (h : LwR a lv B Q lw at') (hB : B ≤ 260) (hQ : Q ≤ 840) (hc : ∀ bs, lw = some bs → ∀ br, br ∈ bs → lbC br) : wfL a at' := by
  cases lw with
  | none => exact ⟨0, 0, h.1, h.2, by decide, fun br h1 h2 => by omega⟩
  | some bs =>
    obtain ⟨h0, f, h1, h2, h3, h4, h5⟩ := h
    refine ⟨f, bs.length, h3, h4, by omega, fun br g1 g2 => ?_⟩
    obtain ⟨i, rfl⟩ : ∃ i, br = f + i := ⟨br - f, by omega⟩
    have hi : bs[i]? = some (bs[i]'(by omega)) := List.getElem?_eq_getElem _
    exact brR_wf (h5 i _ hi) (hc bs rfl _ (List.getElem_mem _)) hQ
def lawO (vars : Nat → Int32) (lw : Option (List LBr)) (plain : Int32) : Int32 := match lw with
  | none => plain
  | some bs => lawV vars bs
theorem lawF_ev {a : Nat → Nat → Int32} {lv B Q at' : Nat} {lw : Option (List LBr)} (h : LwR a lv B Q lw at') (hB : B ≤ 260) (hQ : Q ≤ 840) (hc : ∀ bs, lw = some bs → ∀ br, br ∈ bs → lbC br) (vars : Nat → Int32) (plain : Int32) : lawF a at' vars plain = lawO vars lw plain := by
  cases lw with
  | none =>
    unfold lawF
    rw [h.1, h.2, if_neg (by decide)]
    rfl
  | some bs =>
    obtain ⟨h0, f, h1, h2, h3, h4, h5⟩ := h
    have hl : 1 ≤ bs.length := by cases bs with | nil => exact absurd rfl h0 | cons x r => exact Nat.succ_le_succ (Nat.zero_le _)
    unfold lawF
    rw [h3, h4, if_pos ((nI_ltI (by omega) (by omega)).mpr (by omega)), show ixN (nI f) = f from nI_clamp (by omega), show ixN (nI (f + bs.length)) = f + bs.length from nI_clamp (by omega), show f + bs.length - f = bs.length by omega]
    exact lwF_ev hQ vars bs f h5 (hc bs rfl)
