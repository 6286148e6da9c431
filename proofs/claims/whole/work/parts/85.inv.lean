/-! what holds of a text that is told -/
def smV (K : TKS) : Prop := ∀ t, K.2.2.1 t < 10000
def EXc (c : Cde) : Prop := ∃ (K : TKS) (t t' : Nat), smV K ∧ t ≤ 400 ∧ exS K 6 t = .inr (t', c)
def lbC (br : LBr) : Prop := EXc br.2 ∧ ∀ cc, br.1 = some cc → EXc cc.1 ∧ EXc cc.2
def endsN : List LBr → Prop
  | [] => False
  | br :: r => br.1 = none ∨ endsN r
theorem endsN_app (bs : List LBr) (c : Cde) : endsN (bs ++ [(none, c)]) := by
  induction bs with
  | nil => exact Or.inl rfl
  | cons x r ih => exact Or.inr ih
def rngS (S : SD) : Prop := (1 ≤ S.1 23 ∧ S.1 23 ≤ 5) ∧ S.1 35 ≤ 99 ∧ S.1 36 ≤ 99 ∧ S.1 37 ≤ 9999
  ∧ (∀ i, i < S.1 24 → S.2.1 25 i ≤ 99 ∧ S.2.1 26 i ≤ 9 ∧ S.2.1 27 i ≤ 9 ∧ S.2.1 28 i ≤ 4) ∧ (∀ i, i < S.1 31 → S.2.1 32 i ≤ 99 ∧ S.2.1 33 i ≤ 9 ∧ S.2.1 34 i ≤ 99)
  ∧ (∀ e, e ∈ S.2.2.2.1 → ∃ x y, e = some (x, y) ∧ x ≠ y ∧ x < S.1 24 ∧ y < S.1 24)
  ∧ (∀ (i j : Nat) (x y : Nat), i < j → S.2.2.2.1[j]? = some (some (x, y)) → S.2.2.2.1[i]? ≠ some (some (x, y)) ∧ S.2.2.2.1[i]? ≠ some (some (y, x)))
def shpS (S : SD) : Prop := S.1 24 ≤ 6 ∧ S.1 31 ≤ 5 ∧ S.1 30 ≤ 6 ∧ S.2.2.2.1.length = S.1 30 ∧ (∀ e, e ∈ S.2.2.1 → ∀ j, e.2 = some j → j < S.1 24) ∧ ∀ k bs, S.2.2.2.2 k = some bs → (∀ br, br ∈ bs → lbC br) ∧ endsN bs
def bigS (S : SD) : Prop := S.1 23 < 10000 ∧ ∀ i, i < S.1 24 → S.2.1 28 i < 10000
def invS (q : PT × SD) : Prop := q.1.1 ≤ 400 ∧ shpS q.2 ∧ (q.1.2 = none → rngS q.2) ∧ bigS q.2
theorem note_none {w : Option PE} {k p : Nat} : noteS w k p ≠ none := by cases w <;> intro h <;> cases h
theorem bndS_w {K : TKS} {lo hi : Nat} {s s1 : PT} (h : bndS K lo hi s = .inr s1) (hw : s1.2 = none) : s.2 = none ∧ lo ≤ K.2.2.1 s.1 ∧ K.2.2.1 s.1 ≤ hi := by
  obtain ⟨x, h1, h2⟩ := bd_inrE h
  obtain ⟨h3, h4, rfl⟩ := mstS_inr h1
  cases h2
  have hw : (if lo ≤ K.2.2.1 s.1 ∧ K.2.2.1 s.1 ≤ hi then s.2 else noteS s.2 5 (K.2.1 s.1)) = none := hw
  by_cases h9 : lo ≤ K.2.2.1 s.1 ∧ K.2.2.1 s.1 ≤ hi
  · rw [if_pos h9] at hw; exact ⟨hw, h9⟩
  · rw [if_neg h9] at hw; exact absurd hw note_none
theorem nameS_w {K : TKS} {nl : NmL} {s s1 : PT} (h : nameS K nl s = .inr s1) (hw : s1.2 = none) : s.2 = none := by
  obtain ⟨x, h1, h2⟩ := bd_inrE h
  obtain ⟨h3, h4, rfl⟩ := mstS_inr h1
  cases h2
  have hw : (if hasNm nl (K.2.2.2 s.1) = true then noteS s.2 3 (K.2.1 s.1) else s.2) = none := hw
  split at hw
  · exact absurd hw note_none
  · exact hw
theorem mstS_w {K : TKS} {k : Nat} {s s1 : PT} (h : mstS K k s = .inr s1) (hw : s1.2 = none) : s.2 = none := by
  obtain ⟨-, -, rfl⟩ := mstS_inr h; exact hw
theorem advS_w {s s1 : PT} (h : advS s = .inr s1) (hw : s1.2 = none) : s.2 = none := by
  obtain ⟨-, rfl⟩ := advS_inr h; exact hw
theorem lawS9_inv {K : TKS} (hV : smV K) : ∀ n t bs x, t ≤ 400 → lawS9 K n t bs = .inr x → (∀ br, br ∈ bs → lbC br) → t < x.1 ∧ x.1 ≤ 400 ∧ (∀ br, br ∈ x.2 → lbC br) ∧ endsN x.2 := by
  intro n
  induction n with
  | zero =>
    intro t bs x ht h hb
    unfold lawS9 at h
    by_cases h1 : K.1 t = 30
    · rw [if_pos h1] at h; cases h
    · rw [if_neg h1] at h
      obtain ⟨y, h2, h3⟩ := bd_inrE h
      cases h3
      have h4 := exS_lt (by omega) ht h2
      refine ⟨h4.1, h4.2, fun br hbr => ?_, endsN_app _ _⟩
      rcases List.mem_append.mp hbr with h5 | h5
      · exact hb br h5
      · simp only [List.mem_singleton] at h5; subst h5
        exact ⟨⟨K, t, y.1, hV, ht, h2⟩, fun cc hc => by cases hc⟩
  | succ n ih =>
    intro t bs x ht h hb
    unfold lawS9 at h
    by_cases h1 : K.1 t = 30
    · rw [if_pos h1] at h
      obtain ⟨t1, g1, h⟩ := bd_inrE h
      obtain ⟨y1, g2, h⟩ := bd_inrE h
      obtain ⟨t3, g3, h⟩ := bd_inrE h
      obtain ⟨y2, g4, h⟩ := bd_inrE h
      obtain ⟨t5, g5, h⟩ := bd_inrE h
      obtain ⟨y3, g6, h⟩ := bd_inrE h
      obtain ⟨t7, g7, h⟩ := bd_inrE h
      have e1 := advN_inr g1 ht
      have e2 := exS_lt (by omega) (by omega) g2
      have e3 := mstN_inr g3
      have e4 := exS_lt (by omega) (by omega) g4
      have e5 := mstN_inr g5
      have e6 := exS_lt (by omega) (by omega) g6
      have e7 := mstN_inr g7
      have h9 := ih t7 _ x (by omega) h (fun br hbr => by
        rcases List.mem_append.mp hbr with h5 | h5
        · exact hb br h5
        · simp only [List.mem_singleton] at h5; subst h5
          exact ⟨⟨K, t5, y3.1, hV, by omega, g6⟩, fun cc hc => by cases hc; exact ⟨⟨K, t1, y1.1, hV, by omega, g2⟩, ⟨K, t3, y2.1, hV, by omega, g4⟩⟩⟩)
      exact ⟨by omega, h9.2⟩
    · rw [if_neg h1] at h
      obtain ⟨y, h2, h3⟩ := bd_inrE h
      cases h3
      have h4 := exS_lt (by omega) ht h2
      refine ⟨h4.1, h4.2, fun br hbr => ?_, endsN_app _ _⟩
      rcases List.mem_append.mp hbr with h5 | h5
      · exact hb br h5
      · simp only [List.mem_singleton] at h5; subst h5
        exact ⟨⟨K, t, y.1, hV, ht, h2⟩, fun cc hc => by cases hc⟩
theorem inv_num {K : TKS} (hV : smV K) {k lo hi : Nat} {q q' : PT × SD} (hk : k ∈ [23, 35, 36, 37]) (hr : k = 23 → 1 ≤ lo ∧ hi ≤ 5) (hr2 : k = 35 → hi ≤ 99) (hr3 : k = 36 → hi ≤ 99) (hr4 : k = 37 → hi ≤ 9999) (h : tNum K k lo hi q = .inr q') (hI : invS q) : invS q' ∧ q.1.1 + 3 ≤ q'.1.1 := by
  obtain ⟨s3, h1, h2⟩ := bd_inrE h
  obtain ⟨s2, h3, h4⟩ := bd_inrE h1
  obtain ⟨s1, h5, h6⟩ := bd_inrE h3
  cases h2
  obtain ⟨e10, e1⟩ := advS_inr h5
  have e2 := bndS_inr h6
  obtain ⟨-, e40, e3⟩ := mstS_inr h4
  have hs1 : s1.1 = q.1.1 + 1 := by rw [e1]
  have hs3 : s3.1 = s2.1 + 1 := by rw [e3]
  obtain ⟨i1, i2, i3, i4⟩ := hI
  have eN : ∀ j, j ≠ k → va_up q.2.1 k (K.2.2.1 (q.1.1 + 1)) j = q.2.1 j := fun j hj => if_neg hj
  have hk' : k ≠ 24 ∧ k ≠ 30 ∧ k ≠ 31 := by revert hk; simp only [List.mem_cons, List.not_mem_nil, or_false]; omega
  have n24 := eN 24 (Ne.symm hk'.1)
  have n30 := eN 30 (Ne.symm hk'.2.1)
  have n31 := eN 31 (Ne.symm hk'.2.2)
  refine ⟨⟨by show s3.1 ≤ 400; omega, ?_, fun hw => ?_, ?_⟩, by show q.1.1 + 3 ≤ s3.1; omega⟩
  · obtain ⟨j1, j2, j3, j4, j5, j6⟩ := i2
    refine ⟨by show va_up _ _ _ 24 ≤ 6; rw [n24]; exact j1, by show va_up _ _ _ 31 ≤ 5; rw [n31]; exact j2, by show va_up _ _ _ 30 ≤ 6; rw [n30]; exact j3, by show _ = va_up _ _ _ 30; rw [n30]; exact j4, fun e he j hj => by show j < va_up _ _ _ 24; rw [n24]; exact j5 e he j hj, j6⟩
  · have w2 := mstS_w h4 hw
    have w1 := bndS_w h6 w2
    have w0 := advS_w h5 w1.1
    obtain ⟨r1, r2, r3, r4, r5, r6, r7, r8⟩ := i3 w0
    rw [hs1] at w1
    have key : ∀ j, va_up q.2.1 k (K.2.2.1 (q.1.1 + 1)) j = if j = k then K.2.2.1 (q.1.1 + 1) else q.2.1 j := fun j => rfl
    refine ⟨?_, ?_, ?_, ?_, ?_, ?_, ?_, r8⟩
    · show 1 ≤ va_up _ _ _ 23 ∧ va_up _ _ _ 23 ≤ 5
      rw [key]; split
      · rename_i e; have := hr e.symm; omega
      · exact r1
    · show va_up _ _ _ 35 ≤ 99
      rw [key]; split
      · rename_i e; have := hr2 e.symm; omega
      · exact r2
    · show va_up _ _ _ 36 ≤ 99
      rw [key]; split
      · rename_i e; have := hr3 e.symm; omega
      · exact r3
    · show va_up _ _ _ 37 ≤ 9999
      rw [key]; split
      · rename_i e; have := hr4 e.symm; omega
      · exact r4
    · intro i hi; have hi : i < va_up _ _ _ 24 := hi; rw [n24] at hi; exact r5 i hi
    · intro i hi; have hi : i < va_up _ _ _ 31 := hi; rw [n31] at hi; exact r6 i hi
    · intro e he
      obtain ⟨x, y, g1, g2, g3, g4⟩ := r7 e he
      exact ⟨x, y, g1, g2, by show x < va_up _ _ _ 24; rw [n24]; exact g3, by show y < va_up _ _ _ 24; rw [n24]; exact g4⟩
  · refine ⟨?_, fun i hi => ?_⟩
    · show (if 23 = k then K.2.2.1 (q.1.1 + 1) else q.2.1 23) < 10000
      split
      · exact hV _
      · exact i4.1
    · have hi : i < va_up q.2.1 k (K.2.2.1 (q.1.1 + 1)) 24 := hi
      rw [n24] at hi; exact i4.2 i hi
theorem row_le {D : Nat → Nat} {n y m : Nat} (h : ∀ i, i < n → D i ≤ m) (hy : y ≤ m) : ∀ i, i < n + 1 → va_up D n y i ≤ m := by
  intro i hi
  unfold va_up
  by_cases e : i = n
  · rw [if_pos e]; exact hy
  · rw [if_neg e]; exact h i (by omega)
theorem inv_slp {K : TKS} (hV : smV K) {q q' : PT × SD} (h : tSlp K q = .inr q') (hI : invS q) : invS q' ∧ q.1.1 + 3 ≤ q'.1.1 := by
  unfold tSlp at h
  by_cases h6 : q.2.1 24 = 6
  · rw [if_pos h6] at h; cases h
  rw [if_neg h6] at h
  obtain ⟨s1, g1, h⟩ := bd_inrE h
  obtain ⟨s7, g, h⟩ := bd_inrE h
  cases h
  obtain ⟨s6, g, g7⟩ := bd_inrE g
  obtain ⟨s5, g, g6⟩ := bd_inrE g
  obtain ⟨s4, g, g5⟩ := bd_inrE g
  obtain ⟨s3, g, g4⟩ := bd_inrE g
  obtain ⟨s2, g2, g3⟩ := bd_inrE g
  obtain ⟨e10, e1⟩ := advS_inr g1
  have e2 := nameS_inr g2
  have e3 := bndS_inr g3
  have e4 := bndS_inr g4
  have e5 := bndS_inr g5
  have e6 := bndS_inr g6
  obtain ⟨-, e70, e7⟩ := mstS_inr g7
  have hs1 : s1.1 = q.1.1 + 1 := by rw [e1]
  have hs7 : s7.1 = s6.1 + 1 := by rw [e7]
  obtain ⟨i1, ⟨j1, j2, j3, j4, j5, j6⟩, i3, i4⟩ := hI
  refine ⟨⟨by show s7.1 ≤ 400; omega, ⟨by show q.2.1 24 + 1 ≤ 6; omega, j2, j3, j4, ?_, j6⟩, fun hw => ?_, ⟨i4.1, fun i hi => ?_⟩⟩, by show q.1.1 + 3 ≤ s7.1; omega⟩
  · intro e he j hj
    show j < q.2.1 24 + 1
    rcases List.mem_append.mp he with h5 | h5
    · have := j5 e h5 j hj; omega
    · simp only [List.mem_singleton] at h5; subst h5; cases hj; omega
  · have w6 := mstS_w g7 hw
    have w5 := bndS_w g6 w6
    have w4 := bndS_w g5 w5.1
    have w3 := bndS_w g4 w4.1
    have w2 := bndS_w g3 w3.1
    have w1 := nameS_w g2 w2.1
    have w0 := advS_w g1 w1
    obtain ⟨r1, r2, r3, r4, r5, r6, r7, r8⟩ := i3 w0
    rw [show s2.1 = s1.1 + 1 by omega] at w2
    rw [show s3.1 = s1.1 + 2 by omega] at w3
    rw [show s4.1 = s1.1 + 3 by omega] at w4
    rw [show s5.1 = s1.1 + 4 by omega] at w5
    refine ⟨r1, r2, r3, r4, fun i hi => ⟨?_, ?_, ?_, ?_⟩, r6, fun e he => ?_, r8⟩
    · exact row_le (fun i hi => (r5 i hi).1) w2.2.2 i hi
    · exact row_le (fun i hi => (r5 i hi).2.1) w3.2.2 i hi
    · exact row_le (fun i hi => (r5 i hi).2.2.1) w4.2.2 i hi
    · exact row_le (fun i hi => (r5 i hi).2.2.2) w5.2.2 i hi
    · obtain ⟨x, y, k1, k2, k3, k4⟩ := r7 e he
      exact ⟨x, y, k1, k2, by show x < q.2.1 24 + 1; omega, by show y < q.2.1 24 + 1; omega⟩
  · exact Nat.lt_succ_of_le (row_le (m := 9999) (fun i hi => Nat.le_of_lt_succ (i4.2 i hi)) (Nat.le_of_lt_succ (hV _)) i hi)
theorem inv_crs {K : TKS} {q q' : PT × SD} (h : tCrs K q = .inr q') (hI : invS q) : invS q' ∧ q.1.1 + 3 ≤ q'.1.1 := by
  unfold tCrs at h
  by_cases h6 : q.2.1 31 = 5
  · rw [if_pos h6] at h; cases h
  rw [if_neg h6] at h
  obtain ⟨s1, g1, h⟩ := bd_inrE h
  obtain ⟨s6, g, h⟩ := bd_inrE h
  cases h
  obtain ⟨s5, g, g6⟩ := bd_inrE g
  obtain ⟨s4, g, g5⟩ := bd_inrE g
  obtain ⟨s3, g, g4⟩ := bd_inrE g
  obtain ⟨s2, g2, g3⟩ := bd_inrE g
  obtain ⟨e10, e1⟩ := advS_inr g1
  have e2 := nameS_inr g2
  have e3 := bndS_inr g3
  have e4 := bndS_inr g4
  have e5 := bndS_inr g5
  obtain ⟨-, e70, e7⟩ := mstS_inr g6
  have hs1 : s1.1 = q.1.1 + 1 := by rw [e1]
  have hs7 : s6.1 = s5.1 + 1 := by rw [e7]
  obtain ⟨i1, ⟨j1, j2, j3, j4, j5, j6⟩, i3, i4⟩ := hI
  refine ⟨⟨by show s6.1 ≤ 400; omega, ⟨j1, by show q.2.1 31 + 1 ≤ 5; omega, j3, j4, ?_, j6⟩, fun hw => ?_, i4⟩, by show q.1.1 + 3 ≤ s6.1; omega⟩
  · intro e he j hj
    rcases List.mem_append.mp he with h5 | h5
    · exact j5 e h5 j hj
    · simp only [List.mem_singleton] at h5; subst h5; cases hj
  · have w5 := mstS_w g6 hw
    have w4 := bndS_w g5 w5
    have w3 := bndS_w g4 w4.1
    have w2 := bndS_w g3 w3.1
    have w1 := nameS_w g2 w2.1
    have w0 := advS_w g1 w1
    obtain ⟨r1, r2, r3, r4, r5, r6, r7, r8⟩ := i3 w0
    rw [show s2.1 = s1.1 + 1 by omega] at w2
    rw [show s3.1 = s1.1 + 2 by omega] at w3
    rw [show s4.1 = s1.1 + 3 by omega] at w4
    refine ⟨r1, r2, r3, r4, r5, fun i hi => ⟨?_, ?_, ?_⟩, r7, r8⟩
    · exact row_le (fun i hi => (r6 i hi).1) w2.2.2 i hi
    · exact row_le (fun i hi => (r6 i hi).2.1) w3.2.2 i hi
    · exact row_le (fun i hi => (r6 i hi).2.2) w4.2.2 i hi
theorem hasPr_F {pr : List (Option (Nat × Nat))} {x y i : Nat} (h : ¬ hasPr pr x y = true) : pr[i]? ≠ some (some (x, y)) ∧ pr[i]? ≠ some (some (y, x)) := by
  refine ⟨fun e => h ?_, fun e => h ?_⟩
  · unfold hasPr; exact List.any_eq_true.mpr ⟨_, List.mem_of_getElem? e, by simp⟩
  · unfold hasPr; exact List.any_eq_true.mpr ⟨_, List.mem_of_getElem? e, by simp⟩
theorem inv_pr {K : TKS} {q q' : PT × SD} (h : tPr K q = .inr q') (hI : invS q) : invS q' ∧ q.1.1 + 3 ≤ q'.1.1 := by
  unfold tPr at h
  by_cases h6 : q.2.1 30 = 6
  · rw [if_pos h6] at h; cases h
  rw [if_neg h6] at h
  obtain ⟨s1, g1, h⟩ := bd_inrE h
  obtain ⟨s4, g, h⟩ := bd_inrE h
  cases h
  obtain ⟨s3, g, g4⟩ := bd_inrE g
  obtain ⟨s2, g2, g3⟩ := bd_inrE g
  have g2 : knwS K q.2.2.2.1 s1 = .inr s2 := g2
  obtain ⟨e10, e1⟩ := advS_inr g1
  obtain ⟨-, e20, e2⟩ := knwS_inr g2
  obtain ⟨-, e30, e3⟩ := knwS_inr g3
  obtain ⟨-, e40, e4⟩ := mstS_inr g4
  have hs1 : s1.1 = q.1.1 + 1 := by rw [e1]
  have hs2 : s2.1 = s1.1 + 1 := by rw [e2]
  have hs3 : s3.1 = s2.1 + 1 := by rw [e3]
  have hs4 : s4.1 = s3.1 + 1 := by rw [e4]
  have e40 : s3.1 ≠ 400 := e40
  obtain ⟨i1, ⟨j1, j2, j3, j4, j5, j6⟩, i3, i4⟩ := hI
  refine ⟨⟨by show s4.1 ≤ 400; omega, ⟨j1, j2, by show q.2.1 30 + 1 ≤ 6; omega, ?_, j5, j6⟩, fun hw => ?_, i4⟩, by show q.1.1 + 3 ≤ s4.1; omega⟩
  · show (q.2.2.2.2.1 ++ [_]).length = q.2.1 30 + 1
    rw [List.length_append, j4]; rfl
  · have w3 : (if twc q.2.2.2.2.1 (twN K q.2 s1.1) = true then noteS s3.2 3 (K.2.1 (s1.1 + 1)) else s3.2) = none := mstS_w g4 hw
    have htw : ¬ twc q.2.2.2.2.1 (twN K q.2 s1.1) = true := fun z => by rw [if_pos z] at w3; exact note_none w3
    rw [if_neg htw, e3] at w3
    have w3 : (if (fndNm q.2.2.2.1 (K.2.2.2 s2.1)).isSome = true then s2.2 else noteS s2.2 4 (K.2.1 s2.1)) = none := w3
    have f2 : (fndNm q.2.2.2.1 (K.2.2.2 s2.1)).isSome = true := by
      by_cases z : (fndNm q.2.2.2.1 (K.2.2.2 s2.1)).isSome = true
      · exact z
      · rw [if_neg z] at w3; exact absurd w3 note_none
    rw [if_pos f2, e2] at w3
    have w3 : (if (fndNm q.2.2.2.1 (K.2.2.2 s1.1)).isSome = true then s1.2 else noteS s1.2 4 (K.2.1 s1.1)) = none := w3
    have f1 : (fndNm q.2.2.2.1 (K.2.2.2 s1.1)).isSome = true := by
      by_cases z : (fndNm q.2.2.2.1 (K.2.2.2 s1.1)).isSome = true
      · exact z
      · rw [if_neg z] at w3; exact absurd w3 note_none
    rw [if_pos f1] at w3
    obtain ⟨r1, r2, r3, r4, r5, r6, r7, r8⟩ := i3 (advS_w g1 w3)
    obtain ⟨x, hx⟩ := Option.isSome_iff_exists.mp f1
    obtain ⟨y, hy⟩ := Option.isSome_iff_exists.mp f2
    rw [hs2] at hy
    have htn : twN K q.2 s1.1 = some (x, y) := by unfold twN prOf; rw [hx, hy]
    rw [htn] at htw ⊢
    have htw : ¬ (decide (x = y) || hasPr q.2.2.2.2.1 x y) = true := htw
    rw [Bool.or_eq_true] at htw
    have hne : x ≠ y := fun e => htw (Or.inl (decide_eq_true e))
    have hnp : ¬ hasPr q.2.2.2.2.1 x y = true := fun e => htw (Or.inr e)
    have hxl : x < q.2.1 24 := by obtain ⟨e, k1, k2⟩ := fnd_mem hx; exact j5 e k1 x k2
    have hyl : y < q.2.1 24 := by obtain ⟨e, k1, k2⟩ := fnd_mem hy; exact j5 e k1 y k2
    refine ⟨r1, r2, r3, r4, r5, r6, fun e he => ?_, fun i j x' y' hij hj => ?_⟩
    · rcases List.mem_append.mp he with h5 | h5
      · exact r7 e h5
      · simp only [List.mem_singleton] at h5; exact ⟨x, y, h5, hne, hxl, hyl⟩
    · have hj : (q.2.2.2.2.1 ++ [some (x, y)])[j]? = some (some (x', y')) := hj
      show (q.2.2.2.2.1 ++ [some (x, y)])[i]? ≠ _ ∧ (q.2.2.2.2.1 ++ [some (x, y)])[i]? ≠ _
      have hjl := (List.getElem?_eq_some_iff.mp hj).1
      rw [List.length_append] at hjl
      have hjl : j < q.2.2.2.2.1.length + 1 := hjl
      rw [List.getElem?_append_left (show i < q.2.2.2.2.1.length by omega)]
      by_cases hj2 : j < q.2.2.2.2.1.length
      · rw [List.getElem?_append_left hj2] at hj
        exact r8 i j x' y' hij hj
      · rw [List.getElem?_append_right (by omega), show j - q.2.2.2.2.1.length = 0 by omega] at hj
        cases hj
        exact hasPr_F hnp
theorem inv_law {K : TKS} (hV : smV K) {k : Nat} {q q' : PT × SD} (h : tLaw K k q = .inr q') (hI : invS q) : invS q' ∧ q.1.1 + 3 ≤ q'.1.1 := by
  obtain ⟨t1, g1, h⟩ := bd_inrE h
  obtain ⟨t2, g2, h⟩ := bd_inrE h
  obtain ⟨x, g3, h⟩ := bd_inrE h
  obtain ⟨t4, g4, h⟩ := bd_inrE h
  cases h
  obtain ⟨i1, ⟨j1, j2, j3, j4, j5, j6⟩, i3, i4⟩ := hI
  have e1 := advN_inr g1 i1
  have e2 := mstN_inr g2
  have e3 := lawS9_inv hV 4 t2 [] x (by omega) g3 (fun br hbr => by cases hbr)
  have e4 := mstN_inr g4
  refine ⟨⟨by show t4 ≤ 400; omega, ⟨j1, j2, j3, j4, j5, ?_⟩, fun hw => i3 hw, i4⟩, by show q.1.1 + 3 ≤ t4; omega⟩
  intro k' bs hb
  have hb : va_up q.2.2.2.2.2 k (some x.2) k' = some bs := hb
  unfold va_up at hb
  by_cases e : k' = k
  · rw [if_pos e] at hb; cases hb; exact e3.2.2
  · rw [if_neg e] at hb; exact j6 k' bs hb
theorem tell_inv {K : TKS} (hV : smV K) {q q' : PT × SD} (h : tellS K q = .inr q') (hI : invS q) : invS q' ∧ q.1.1 + 3 ≤ q'.1.1 := by
  unfold tellS at h
  by_cases h1 : K.1 q.1.1 = 20
  · rw [if_pos h1] at h; exact inv_num hV (by decide) (fun _ => by decide) (fun e => absurd e (by decide)) (fun e => absurd e (by decide)) (fun e => absurd e (by decide)) h hI
  rw [if_neg h1] at h
  by_cases h2 : K.1 q.1.1 = 21
  · rw [if_pos h2] at h; exact inv_slp hV h hI
  rw [if_neg h2] at h
  by_cases h3 : K.1 q.1.1 = 22
  · rw [if_pos h3] at h; exact inv_pr h hI
  rw [if_neg h3] at h
  by_cases h4 : K.1 q.1.1 = 23
  · rw [if_pos h4] at h; exact inv_crs h hI
  rw [if_neg h4] at h
  by_cases h5 : K.1 q.1.1 = 27
  · rw [if_pos h5] at h; exact inv_num hV (by decide) (fun e => absurd e (by decide)) (fun _ => by decide) (fun e => absurd e (by decide)) (fun e => absurd e (by decide)) h hI
  rw [if_neg h5] at h
  by_cases h6 : K.1 q.1.1 = 28
  · rw [if_pos h6] at h; exact inv_num hV (by decide) (fun e => absurd e (by decide)) (fun e => absurd e (by decide)) (fun _ => by decide) (fun e => absurd e (by decide)) h hI
  rw [if_neg h6] at h
  by_cases h7 : K.1 q.1.1 = 29
  · rw [if_pos h7] at h; exact inv_num hV (by decide) (fun e => absurd e (by decide)) (fun e => absurd e (by decide)) (fun e => absurd e (by decide)) (fun _ => by decide) h hI
  rw [if_neg h7] at h
  by_cases h8 : 24 ≤ K.1 q.1.1 ∧ K.1 q.1.1 ≤ 26
  · rw [if_pos h8] at h; exact inv_law hV h hI
  rw [if_neg h8] at h; cases h
theorem txt_inv {K : TKS} (hV : smV K) : ∀ n q q', txtS K n q = .inr q' → invS q → 401 ≤ q.1.1 + 3 * n → invS q' ∧ K.1 q'.1.1 = 0 := by
  intro n
  induction n with
  | zero => intro q q' h hI hn; have := hI.1; omega
  | succ n ih =>
    intro q q' h hI hn
    unfold txtS at h
    by_cases h1 : K.1 q.1.1 = 0
    · rw [if_pos h1] at h; cases h; exact ⟨hI, h1⟩
    · rw [if_neg h1] at h
      obtain ⟨q1, h2, h3⟩ := bd_inrE h
      have h4 := tell_inv hV h2 hI
      exact ih q1 q' h3 h4.1 (by omega)
theorem inv_plain : invS ((0, none), plainD) := by
  refine ⟨by decide, ⟨by decide, by decide, by decide, rfl, (fun e he => by cases he), fun k bs h => by cases h⟩, fun _ => ⟨⟨by decide, by decide⟩, by decide, by decide, by decide, fun i hi => absurd hi (Nat.not_lt_zero i), fun i hi => absurd hi (Nat.not_lt_zero i), (fun e he => by cases he), fun i j x y _ h => by cases h⟩, ⟨by decide, fun i hi => absurd hi (Nat.not_lt_zero i)⟩⟩
/-- a text without fault -/
theorem read_inv {K : TKS} (hV : smV K) {S : SD} (h : readS K = .inr S) : shpS S ∧ rngS S ∧ ∀ i, i < S.1 24 → S.2.1 28 i < S.1 23 := by
  unfold readS at h
  cases ht : txtS K 400 ((0, none), plainD) with
  | inl e => rw [ht] at h; cases h
  | inr q =>
    rw [ht] at h
    have hI := (txt_inv hV 400 _ q ht inv_plain (by decide)).1
    have h : (match (endS K q).1.2 with | some w => (.inl w : PE ⊕ SD) | none => .inr (endS K q).2) = .inr S := h
    cases hw : (endS K q).1.2 with
    | some w => rw [hw] at h; cases h
    | none =>
      rw [hw] at h
      have h : (.inr q.2 : PE ⊕ SD) = .inr S := h
      cases h
      have hw : (if outP q = true then noteS q.1.2 5 (K.2.1 q.1.1) else q.1.2) = none := hw
      have ho : ¬ outP q = true := fun z => by rw [if_pos z] at hw; exact note_none hw
      rw [if_neg ho] at hw
      refine ⟨hI.2.1, hI.2.2.1 hw, fun i hi => ?_⟩
      rcases Nat.lt_or_ge (q.2.2.1 28 i) (q.2.1 23) with h9 | h9
      · exact h9
      · exact absurd (List.any_eq_true.mpr ⟨i, List.mem_range.mpr hi, decide_eq_true h9⟩) ho
