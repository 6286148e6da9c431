/-! THE CLASS: numbers and names taken; what a text holds so far -/
theorem PVc.ntI {K : TKS} {e : PE} {rv : Nat → Int32} (h : PVc K (.inl e) rv) (x y : Int32) : PVc K (.inl e) (ntV rv x y) := by
  have c := ntV_chg (rv := rv) (k := x) (p := y)
  exact ⟨(c 9 (by decide)).trans h.1, h.2.1, (c 1 (by decide)).trans h.2.2.1, by rw [c 8 (by decide)]; exact h.2.2.2⟩
theorem PVc.ntS {K : TKS} {t : Nat} {w : Option PE} {rv : Nat → Int32} (h : PVc K (.inr (t, w)) rv) {k p : Nat} (hk : 3 ≤ k ∧ k ≤ 5) : PVc K (.inr (t, noteS w k p)) (ntV rv (nI k) (nI p)) := h.note hk
theorem PVc.at {K : TKS} {s : PT} {rv : Nat → Int32} (h : PVc K (.inr s) rv) {t : Nat} (ht : t ≤ 400) (h8 : rv 8 = nI t) : t = s.1 := (nI_eq (by omega) (by have := h.1; omega)).mp (h8.symm.trans h.2.1)
theorem i64_32 {v : Nat} (h : v < 10000) : ((nI v).toInt64).toInt32 = nI v := Int32.toInt32_toInt64 _
theorem PVc.bnd {K : TKS} {r : PE ⊕ PT} {rv rv1 : Nat → Int32} {ra : Nat → Nat → Int32} {rb : Nat → Nat → Int64} (hT : CTk K ra rb) (hP : PVc K r rv) (hP1 : PVc K (bd r (mstS K 2)) rv1) {t : Nat} (ht : t ≤ 400) (h8 : rv 8 = nI t) {lo hi : Nat} (hlo : lo < 10000) (hhi : hi < 10000) : (¬ (nI lo ≤ (rb 6 t).toInt32 ∧ (rb 6 t).toInt32 ≤ nI hi) → PVc K (bd r (bndS K lo hi)) (ntV rv1 (nI 5) (ra 5 t))) ∧ ((nI lo ≤ (rb 6 t).toInt32 ∧ (rb 6 t).toInt32 ≤ nI hi) → PVc K (bd r (bndS K lo hi)) rv1) ∧ ∀ s s', r = .inr s → bndS K lo hi s = .inr s' → (rb 6 t).toInt32 = nI (K.2.2.1 s.1) := by
  cases r with
  | inl e => exact ⟨fun _ => PVc.ntI hP1 _ _, fun _ => hP1, fun s s' h => by cases h⟩
  | inr s =>
    obtain rfl := hP.at ht h8
    have hK := hT s.1 ht hP.2.2.2.1
    have hP1 : PVc K (mstS K 2 s) rv1 := hP1
    show (_ → PVc K (bndS K lo hi s) _) ∧ (_ → PVc K (bndS K lo hi s) _) ∧ _
    cases hm : mstS K 2 s with
    | inl e =>
      rw [hm] at hP1
      have hb : bndS K lo hi s = .inl e := by unfold bndS; rw [hm]; rfl
      rw [hb]
      exact ⟨fun _ => PVc.ntI hP1 _ _, fun _ => hP1, fun s1 s' h h2 => by cases h; rw [hb] at h2; cases h2⟩
    | inr s1 =>
      rw [hm] at hP1
      have hk := (mstS_inr hm).1
      have hv : (rb 6 s.1).toInt32 = nI (K.2.2.1 s.1) := by rw [hK.2.2.2.1 hk]; exact i64_32 hK.2.2.2.2.2.2
      have hlt := hK.2.2.2.2.2.2
      have hc : (nI lo ≤ (rb 6 s.1).toInt32 ∧ (rb 6 s.1).toInt32 ≤ nI hi) ↔ (lo ≤ K.2.2.1 s.1 ∧ K.2.2.1 s.1 ≤ hi) := by rw [hv, nI_leI (by omega) (by omega), nI_leI (by omega) (by omega)]
      have hb : bndS K lo hi s = .inr (s1.1, if lo ≤ K.2.2.1 s.1 ∧ K.2.2.1 s.1 ≤ hi then s1.2 else noteS s1.2 5 (K.2.1 s.1)) := by unfold bndS; rw [hm]; rfl
      rw [hb]
      refine ⟨fun h => ?_, fun h => ?_, fun s2 s' h _ => by cases h; exact hv⟩
      · rw [if_neg (fun z => h (hc.mpr z)), hK.2.1]; exact hP1.ntS (by omega)
      · rw [if_pos (hc.mp h)]; exact hP1
/-! names -/
def slN (nl : NmL) : List (List Nat) := nl.filterMap (fun e => e.2.map (fun _ => e.1))
def crN (nl : NmL) : List (List Nat) := nl.filterMap (fun e => match e.2 with | none => some e.1 | some _ => none)
def NmC (nl : NmL) (tb : Nat → Nat → Int64) : Prop := (∀ i x, (slN nl)[i]? = some x → vNm x ∧ tb 7 i = lN (enc 32 x)) ∧ (∀ i x, (crN nl)[i]? = some x → vNm x ∧ tb 13 i = lN (enc 32 x)) ∧ ∀ x, fndNm nl x = findN (fun i => decide ((slN nl).getD i [] = x)) (slN nl).length 0
theorem slN_s (nl : NmL) (x : List Nat) (j : Nat) : slN (nl ++ [(x, some j)]) = slN nl ++ [x] ∧ crN (nl ++ [(x, some j)]) = crN nl := by
  unfold slN crN; rw [List.filterMap_append, List.filterMap_append]; simp
theorem slN_c (nl : NmL) (x : List Nat) : slN (nl ++ [(x, none)]) = slN nl ∧ crN (nl ++ [(x, none)]) = crN nl ++ [x] := by
  unfold slN crN; rw [List.filterMap_append, List.filterMap_append]; simp
theorem fnd_app (y : List Nat) (z : Option Nat) (x : List Nat) : ∀ nl, fndNm (nl ++ [(y, z)]) x = match fndNm nl x with | some i => some i | none => match z with | some n => if y = x then some n else none | none => none := by
  intro nl
  induction nl with
  | nil => cases z <;> rfl
  | cons e r ih =>
    show (match e.2 with | some i => if e.1 = x then some i else fndNm (r ++ [(y, z)]) x | none => fndNm (r ++ [(y, z)]) x) = match (match e.2 with | some i => if e.1 = x then some i else fndNm r x | none => fndNm r x) with | some i => some i | none => _
    cases e.2 with
    | none => exact ih
    | some i =>
      show (if e.1 = x then some i else fndNm (r ++ [(y, z)]) x) = match (if e.1 = x then some i else fndNm r x) with | some i => some i | none => _
      by_cases h : e.1 = x
      · rw [if_pos h, if_pos h]
      · rw [if_neg h, if_neg h]; exact ih
theorem findN_cg {p q : Nat → Bool} : ∀ n i, (∀ j, i ≤ j → j < i + n → p j = q j) → findN p n i = findN q n i := by
  intro n
  induction n with
  | zero => intro i _; rfl
  | succ n ih =>
    intro i h
    show (if p i = true then _ else _) = (if q i = true then _ else _)
    rw [h i (Nat.le_refl _) (by omega), ih (i + 1) (fun j h1 h2 => h j (by omega) (by omega))]
theorem getD_app {l : List (List Nat)} {x : List Nat} {i : Nat} (h : i < l.length) : (l ++ [x]).getD i [] = l.getD i [] := by
  rw [List.getD_eq_getElem?_getD, List.getElem?_append_left h, ← List.getD_eq_getElem?_getD]
theorem getD_last (l : List (List Nat)) (x : List Nat) : (l ++ [x]).getD l.length [] = x := by
  rw [List.getD_eq_getElem?_getD, List.getElem?_append_right (Nat.le_refl _), Nat.sub_self]; rfl
theorem NmC.sl {nl : NmL} {tb tb' : Nat → Nat → Int64} (h : NmC nl tb) {x : List Nat} (hx : vNm x) {n : Nat} (hn : n = (slN nl).length) (h7 : tb' 7 = vp_updL (tb 7) n (lN (enc 32 x))) (h13 : tb' 13 = tb 13) : NmC (nl ++ [(x, some n)]) tb' := by
  obtain ⟨e1, e2⟩ := slN_s nl x n
  refine ⟨fun i y hi => ?_, fun i y hi => ?_, fun y => ?_⟩
  · rw [e1] at hi
    rcases Nat.lt_trichotomy i (slN nl).length with z | z | z
    · rw [List.getElem?_append_left z] at hi
      rw [h7, updL_ne (by omega)]; exact h.1 i y hi
    · subst z
      rw [List.getElem?_append_right (Nat.le_refl _), Nat.sub_self] at hi
      cases hi
      rw [h7, hn, updL_eq]; exact ⟨hx, rfl⟩
    · rw [List.getElem?_eq_none (by rw [List.length_append]; show _ + 1 ≤ i; omega)] at hi; cases hi
  · rw [e2] at hi; rw [h13]; exact h.2.1 i y hi
  · rw [fnd_app, h.2.2, e1, List.length_append, show [x].length = 1 from rfl, findN_last, Nat.zero_add, getD_last, hn]
    rw [findN_cg (p := fun i => decide ((slN nl ++ [x]).getD i [] = y)) (q := fun i => decide ((slN nl).getD i [] = y)) _ 0 (fun j _ hj => by rw [getD_app (by omega)])]
    cases findN (fun i => decide ((slN nl).getD i [] = y)) (slN nl).length 0 with
    | some i => rfl
    | none =>
      show (if x = y then _ else _) = (if decide (x = y) = true then _ else _)
      by_cases z : x = y
      · rw [if_pos z, if_pos (decide_eq_true z)]
      · rw [if_neg z, if_neg (by simpa using z)]
theorem NmC.cr {nl : NmL} {tb tb' : Nat → Nat → Int64} (h : NmC nl tb) {x : List Nat} (hx : vNm x) {n : Nat} (hn : n = (crN nl).length) (h13 : tb' 13 = vp_updL (tb 13) n (lN (enc 32 x))) (h7 : tb' 7 = tb 7) : NmC (nl ++ [(x, none)]) tb' := by
  obtain ⟨e1, e2⟩ := slN_c nl x
  refine ⟨fun i y hi => ?_, fun i y hi => ?_, fun y => ?_⟩
  · rw [e1] at hi; rw [h7]; exact h.1 i y hi
  · rw [e2] at hi
    rcases Nat.lt_trichotomy i (crN nl).length with z | z | z
    · rw [List.getElem?_append_left z] at hi
      rw [h13, updL_ne (by omega)]; exact h.2.1 i y hi
    · subst z
      rw [List.getElem?_append_right (Nat.le_refl _), Nat.sub_self] at hi
      cases hi
      rw [h13, hn, updL_eq]; exact ⟨hx, rfl⟩
    · rw [List.getElem?_eq_none (by rw [List.length_append]; show _ + 1 ≤ i; omega)] at hi; cases hi
  · rw [fnd_app, h.2.2, e1]
    cases findN (fun i => decide ((slN nl).getD i [] = y)) (slN nl).length 0 <;> rfl
theorem NmC.fnd {nl : NmL} {tb : Nat → Nat → Int64} (h : NmC nl tb) {x : List Nat} (hx : vNm x) : findN (fun i => decide (tb 7 i = lN (enc 32 x))) (slN nl).length 0 = fndNm nl x := by
  rw [h.2.2]
  refine findN_cg _ 0 (fun j _ hj => ?_)
  have hj : j < (slN nl).length := by omega
  obtain ⟨h1, h2⟩ := h.1 j _ (List.getElem?_eq_getElem hj)
  rw [h2, List.getD_eq_getElem?_getD, List.getElem?_eq_getElem hj, Option.getD_some]
  exact decide_eq_decide.mpr (h1.eq32 hx)
theorem nm_mem {nl : NmL} {x : List Nat} : hasNm nl x = true ↔ x ∈ slN nl ∨ x ∈ crN nl := by
  unfold hasNm slN crN
  rw [List.any_eq_true, List.mem_filterMap, List.mem_filterMap]
  constructor
  · rintro ⟨⟨y, z⟩, h1, h2⟩
    have hy : y = x := of_decide_eq_true h2
    cases z with
    | none => exact Or.inr ⟨(y, none), h1, congrArg some hy⟩
    | some j => exact Or.inl ⟨(y, some j), h1, congrArg some hy⟩
  · rintro (⟨⟨y, z⟩, h1, h2⟩ | ⟨⟨y, z⟩, h1, h2⟩)
    · cases z with
      | none => cases h2
      | some j => exact ⟨(y, some j), h1, decide_eq_true (Option.some.inj h2)⟩
    · cases z with
      | none => exact ⟨(y, none), h1, decide_eq_true (Option.some.inj h2)⟩
      | some j => cases h2
theorem fnd_is {f : Nat → Int64} {l : List (List Nat)} {x : List Nat} (hx : vNm x) (h : ∀ i y, l[i]? = some y → vNm y ∧ f i = lN (enc 32 y)) : (findN (fun i => decide (f i = lN (enc 32 x))) l.length 0).isSome = true ↔ x ∈ l := by
  constructor
  · intro hs
    obtain ⟨j, hj⟩ := Option.isSome_iff_exists.mp hs
    obtain ⟨-, h2, h3⟩ := findN_some _ _ _ hj
    have h2 : j < l.length := by omega
    obtain ⟨g1, g2⟩ := h j _ (List.getElem?_eq_getElem h2)
    have h4 := of_decide_eq_true h3
    rw [g2] at h4
    rw [← (g1.eq32 hx).mp h4]
    exact List.getElem_mem h2
  · intro hm
    obtain ⟨j, hj⟩ := List.getElem?_of_mem hm
    exact findN_is _ _ j (Nat.zero_le _) (by have := (List.getElem?_eq_some_iff.mp hj).1; omega) (decide_eq_true (h j _ hj).2)
theorem NmC.has {nl : NmL} {tb : Nat → Nat → Int64} (h : NmC nl tb) {x : List Nat} (hx : vNm x) : ((findN (fun i => decide (tb 13 i = lN (enc 32 x))) (crN nl).length 0).isSome = true ∨ (findN (fun i => decide (tb 7 i = lN (enc 32 x))) (slN nl).length 0).isSome = true) ↔ hasNm nl x = true := by
  rw [nm_mem, fnd_is hx h.1, fnd_is hx h.2.1]
  exact Or.comm
/-! what a text holds so far -/
def Fq (tv : Nat → Int32) : Prop := ∃ m sz, tv 1 = nI m ∧ m ≤ 6 ∧ tv 20 = nI sz ∧ 4 ≤ sz ∧ sz ≤ 404
def LwC (S : SD) (t : Nat) (tv : Nat → Int32) (ta : Nat → Nat → Int32) : Prop := ∃ sz, tv 20 = nI sz ∧ sz ≤ t + 4 ∧ 4 ≤ sz ∧ ∀ k, k < 3 → ∃ p, ta 21 k = nI p ∧ sgC (ta 20) p (lwC k (S.2.2.2.2 k) p) ∧ p + (lwC k (S.2.2.2.2 k) p).length ≤ sz
def RDc (S : SD) (t : Nat) (tv : Nat → Int32) (ta : Nat → Nat → Int32) (tb : Nat → Nat → Int64) : Prop :=
  (tv 0 = nI (S.1 23) ∧ tv 1 = nI (S.1 24) ∧ tv 2 = nI (S.1 30) ∧ tv 3 = nI (S.1 31) ∧ tv 4 = nI (S.1 35) ∧ tv 5 = nI (S.1 36) ∧ tv 6 = nI (S.1 37))
  ∧ (∀ i, i < S.1 24 → ta 8 i = nI (S.2.1 25 i) ∧ ta 9 i = nI (S.2.1 26 i) ∧ ta 10 i = nI (S.2.1 27 i) ∧ ta 11 i = nI (S.2.1 28 i))
  ∧ (∀ i, i < S.1 31 → ta 14 i = nI (S.2.1 32 i) ∧ ta 15 i = nI (S.2.1 33 i) ∧ ta 16 i = nI (S.2.1 34 i))
  ∧ (∀ i e, S.2.2.2.1[i]? = some e → ta 12 i = nI (prM e) ∧ ∀ x y, e = some (x, y) → x < 6 ∧ y < 6)
  ∧ LwC S t tv ta ∧ NmC S.2.2.1 tb ∧ ((slN S.2.2.1).length = S.1 24 ∧ (crN S.2.2.1).length = S.1 31 ∧ S.1 24 ≤ 6 ∧ S.1 31 ≤ 5 ∧ S.1 30 ≤ 6 ∧ S.2.2.2.1.length = S.1 30)
theorem RDc.ctx {S : SD} {t : Nat} {tv : Nat → Int32} {ta : Nat → Nat → Int32} {tb : Nat → Nat → Int64} (h : RDc S t tv ta tb) (ht : t ≤ 400) : CTx S tv ta := by
  obtain ⟨h1, h2, h3, h4, ⟨sz, g1, g2, -, g3⟩, -⟩ := h
  exact ⟨h1, h2, h3, fun i e he => (h4 i e he).1, sz, g1, by omega, g3⟩
theorem RDc.fq {S : SD} {t : Nat} {tv : Nat → Int32} {ta : Nat → Nat → Int32} {tb : Nat → Nat → Int64} (h : RDc S t tv ta tb) (ht : t ≤ 400) : Fq tv := by
  obtain ⟨h1, h2, h3, h4, ⟨sz, g1, g2, g4, g3⟩, -, h6⟩ := h
  exact ⟨_, sz, h1.2.1, h6.2.2.1, g1, g4, by omega⟩
theorem LwC.mono {S : SD} {t t' : Nat} {tv : Nat → Int32} {ta : Nat → Nat → Int32} (h : LwC S t tv ta) (ht : t ≤ t') : LwC S t' tv ta := by
  obtain ⟨sz, g1, g2, g4, g3⟩ := h
  exact ⟨sz, g1, by omega, g4, g3⟩
def RPc (K : TKS) (R : PE ⊕ PT) (S : SD) (rv : Nat → Int32) (tv : Nat → Int32) (ta : Nat → Nat → Int32) (tb : Nat → Nat → Int64) : Prop := PVc K R rv ∧ Fq tv ∧ ∀ s, R = .inr s → RDc S s.1 tv ta tb
def RQc (K : TKS) (r : PE ⊕ (PT × SD)) (rv : Nat → Int32) (tv : Nat → Int32) (ta : Nat → Nat → Int32) (tb : Nat → Nat → Int64) : Prop := match r with
  | .inl e => PVc K (.inl e) rv ∧ Fq tv
  | .inr q => PVc K (.inr q.1) rv ∧ RDc q.2 q.1.1 tv ta tb
theorem PVc.name {K : TKS} {r : PE ⊕ PT} {rv rv1 : Nat → Int32} {ra : Nat → Nat → Int32} {rb tb : Nat → Nat → Int64} (hT : CTk K ra rb) (hP : PVc K r rv) (hP1 : PVc K (bd r (mstS K 1)) rv1) {t : Nat} (ht : t ≤ 400) (h8 : rv 8 = nI t) {nl : NmL} (hN : NmC nl tb) : (¬ rv1 9 = 0 → PVc K (bd r (nameS K nl)) rv1) ∧ (rv1 9 = 0 → (((findN (fun i => decide (tb 13 i = rb 6 t)) (crN nl).length 0).isSome = true ∨ (findN (fun i => decide (tb 7 i = rb 6 t)) (slN nl).length 0).isSome = true) → PVc K (bd r (nameS K nl)) (ntV rv1 (nI 3) (ra 5 t))) ∧ (¬ ((findN (fun i => decide (tb 13 i = rb 6 t)) (crN nl).length 0).isSome = true ∨ (findN (fun i => decide (tb 7 i = rb 6 t)) (slN nl).length 0).isSome = true) → PVc K (bd r (nameS K nl)) rv1)) ∧ ∀ s s', r = .inr s → nameS K nl s = .inr s' → rb 6 t = lN (enc 32 (K.2.2.2 s.1)) ∧ vNm (K.2.2.2 s.1) := by
  cases r with
  | inl e => exact ⟨fun _ => hP1, fun h => absurd h hP1.no, fun s s' h => by cases h⟩
  | inr s =>
    obtain rfl := hP.at ht h8
    have hK := hT s.1 ht hP.2.2.2.1
    have hP1 : PVc K (mstS K 1 s) rv1 := hP1
    show (_ → PVc K (nameS K nl s) _) ∧ (_ → (_ → PVc K (nameS K nl s) _) ∧ (_ → PVc K (nameS K nl s) _)) ∧ _
    cases hm : mstS K 1 s with
    | inl e =>
      rw [hm] at hP1
      have hb : nameS K nl s = .inl e := by unfold nameS; rw [hm]; rfl
      rw [hb]
      exact ⟨fun _ => hP1, fun h => absurd h hP1.no, fun s1 s' h h2 => by cases h; rw [hb] at h2; cases h2⟩
    | inr s1 =>
      rw [hm] at hP1
      have hk := (mstS_inr hm).1
      obtain ⟨hv, hvn⟩ := hK.2.2.1 hk
      have hb : nameS K nl s = .inr (s1.1, if hasNm nl (K.2.2.2 s.1) = true then noteS s1.2 3 (K.2.1 s.1) else s1.2) := by unfold nameS; rw [hm]; rfl
      have hh := hN.has hvn
      rw [hb, hv]
      refine ⟨fun h => absurd hP1.2.2.1 h, fun _ => ⟨fun h => ?_, fun h => ?_⟩, fun s2 s' h _ => by cases h; exact ⟨rfl, hvn⟩⟩
      · rw [if_pos (hh.mp h), hK.2.1]; exact hP1.ntS (by omega)
      · rw [if_neg (fun z => h (hh.mpr z))]; exact hP1
theorem PVc.known {K : TKS} {r : PE ⊕ PT} {rv rv1 : Nat → Int32} {ra : Nat → Nat → Int32} {rb tb : Nat → Nat → Int64} (hT : CTk K ra rb) (hP : PVc K r rv) (hP1 : PVc K (bd r (mstS K 1)) rv1) {t : Nat} (ht : t ≤ 400) (h8 : rv 8 = nI t) {nl : NmL} (hN : NmC nl tb) (hm6 : (slN nl).length ≤ 6) : (ofF (findN (fun i => decide (tb 7 i = rb 6 t)) (slN nl).length 0) (fun i => nI i) (-1) = -1 → PVc K (bd r (knwS K nl)) (ntV rv1 (nI 4) (ra 5 t))) ∧ (¬ ofF (findN (fun i => decide (tb 7 i = rb 6 t)) (slN nl).length 0) (fun i => nI i) (-1) = -1 → PVc K (bd r (knwS K nl)) rv1) ∧ ∀ s s', r = .inr s → mstS K 1 s = .inr s' → ofF (findN (fun i => decide (tb 7 i = rb 6 t)) (slN nl).length 0) (fun i => nI i) (-1) = fnX nl (K.2.2.2 s.1) := by
  cases r with
  | inl e => exact ⟨fun _ => PVc.ntI hP1 _ _, fun _ => hP1, fun s s' h => by cases h⟩
  | inr s =>
    obtain rfl := hP.at ht h8
    have hK := hT s.1 ht hP.2.2.2.1
    have hP1 : PVc K (mstS K 1 s) rv1 := hP1
    show (_ → PVc K (knwS K nl s) _) ∧ (_ → PVc K (knwS K nl s) _) ∧ _
    cases hm : mstS K 1 s with
    | inl e =>
      rw [hm] at hP1
      have hb : knwS K nl s = .inl e := by unfold knwS; rw [hm]; rfl
      rw [hb]
      exact ⟨fun _ => PVc.ntI hP1 _ _, fun _ => hP1, fun s1 s' h h2 => by cases h; rw [hm] at h2; cases h2⟩
    | inr s1 =>
      rw [hm] at hP1
      have hk := (mstS_inr hm).1
      obtain ⟨hv, hvn⟩ := hK.2.2.1 hk
      have hb : knwS K nl s = .inr (s1.1, if (fndNm nl (K.2.2.2 s.1)).isSome = true then s1.2 else noteS s1.2 4 (K.2.1 s.1)) := by unfold knwS; rw [hm]; rfl
      have hf := hN.fnd hvn
      have hno := ofF_no (p := fun i => decide (tb 7 i = rb 6 s.1)) hm6
      rw [hb]
      rw [hv] at hno ⊢
      rw [hf] at hno ⊢
      refine ⟨fun h => ?_, fun h => ?_, fun s2 s' h _ => by cases h; unfold fnX ofF; cases fndNm nl (K.2.2.2 s.1) <;> rfl⟩
      · rw [if_neg (hno.mp h), hK.2.1]; exact hP1.ntS (by omega)
      · rw [if_pos (Decidable.not_not.mp (fun z => h (hno.mpr z)))]; exact hP1
set_option maxHeartbeats 1000000 in
theorem cc_takeInt (d : Nat) (rv : Nat → Int32) (ra : Nat → Nat → Int32) (rb : Nat → Nat → Int64) (rt : Value) (X : px_W) (K : TKS) (hT : CTk K ra rb) (r : PE ⊕ PT) (hP : PVc K r rv) (lo hi : Nat) (hlo : lo < 10000) (hhi : hi < 10000) (hd : 1 ≤ d) : Con mX3_takeInt d [.ref 0, .int (nI lo), .int (nI hi)] (dW rv ra rb rt X) (fun q W' => ∃ rv' x, W' = dW rv' ra rb rt X ∧ chg [1, 8, 9, 10, 11] rv rv' ∧ PVc K (bd r (bndS K lo hi)) rv' ∧ q = some (.int x) ∧ ∀ s s', r = .inr s → bndS K lo hi s = .inr s' → x = nI (K.2.2.1 s.1)) := by
  obtain ⟨t, ht, h8⟩ := hP.t
  refine Con.of (by decide) (Nat.le_of_ble_eq_true rfl) ?_
  have q1 : (rv 8) = (nI t) := h8
  have q2 : (nI t).toNatClampNeg = t := nI_clamp (by omega)
  refine XG.blk tX3_takeInt_ok 0 15 (pc' := 24) (pl' := [some (.ref 0), some (.int (nI lo)), some (.int (nI hi)), some (.int (((rb 6) (rv 8).toNatClampNeg)).toInt32), some (.int ((ra 5) (rv 8).toNatClampNeg))]) (st' := [(.int (nI 3)), (.ref 0)]) (W1 := (dW rv ra rb rt X)) (bs := [px_vb (rv 8) 402, px_vb (rv 8) 402]) rfl rfl (by (try simp only [q1, q2]); exact (px_all (px_vbN (by omega) (by decide)) (px_all (px_vbN (by omega) (by decide)) rfl))) ?_
  simp only [q1, q2]
  refine XG.callV0 eX3_takeInt_24 kl_X3_130 (cc_take (d - 1) rv ra rb rt X K hT r hP 2 (by unfold vk; omega) (by decide)) (px_fitS (by omega)) rfl rfl rfl (Nat.le_of_ble_eq_true rfl) (fun r9 W9 hp9 hl9 => ?_)
  obtain ⟨rv1, rfl, hc1, hP1, rfl⟩ := hp9
  show XG _ _ _ _ _ _ [] (dW rv1 ra rb rt X)
  refine XG.blk tX3_takeInt_ok 16 2 (pc' := 29) (pl' := [some (.ref 0), some (.int (nI lo)), some (.int (nI hi)), some (.int (((rb 6) t)).toInt32), some (.int ((ra 5) t))]) (st' := [(.int (nI lo)), (.int (((rb 6) t)).toInt32)]) (W1 := (dW rv1 ra rb rt X)) (bs := []) rfl rfl rfl ?_
  refine XG.br eX3_takeInt_29 (P := (((rb 6) t)).toInt32 < (nI lo)) (r := []) rfl (tgt := 37) (by decide) (fun h29 => ?_) (fun h29 => ?_)
  · skip
    refine XG.blk tX3_takeInt_ok 22 3 (pc' := 41) (pl' := [some (.ref 0), some (.int (nI lo)), some (.int (nI hi)), some (.int (((rb 6) t)).toInt32), some (.int ((ra 5) t))]) (st' := [(.int ((ra 5) t)), (.int (nI 5)), (.ref 0)]) (W1 := (dW rv1 ra rb rt X)) (bs := []) rfl rfl rfl ?_
    refine XG.callV0 eX3_takeInt_41 kl_X3_79 (cc_noteLater (d - 1) rv1 ra rb rt X (nI 5) ((ra 5) t)) (px_fitS (by omega)) rfl rfl rfl (Nat.le_of_ble_eq_true rfl) (fun r9 W9 hp9 hl9 => ?_)
    obtain ⟨rfl, rfl⟩ := hp9
    show XG _ _ _ _ _ _ [] (dW (ntV rv1 (nI 5) ((ra 5) t)) ra rb rt X)
    refine XG.blk tX3_takeInt_ok 26 1 (pc' := 45) (pl' := [some (.ref 0), some (.int (nI lo)), some (.int (nI hi)), some (.int (((rb 6) t)).toInt32), some (.int ((ra 5) t))]) (st' := [(.int (((rb 6) t)).toInt32)]) (W1 := (dW (ntV rv1 (nI 5) ((ra 5) t)) ra rb rt X)) (bs := []) rfl rfl rfl ?_
    refine XS.iret eX3_takeInt_45 rfl rfl ?_
    have hb := PVc.bnd hT hP hP1 ht h8 hlo hhi
    exact ⟨_, _, rfl, ((hc1.mono (by decide)).tr (ntV_chg.mono (by decide))), hb.1 (fun z => absurd z.1 (Int32.not_le.mpr h29)), rfl, hb.2.2⟩
  · skip
    refine XG.blk tX3_takeInt_ok 19 2 (pc' := 34) (pl' := [some (.ref 0), some (.int (nI lo)), some (.int (nI hi)), some (.int (((rb 6) t)).toInt32), some (.int ((ra 5) t))]) (st' := [(.int (nI hi)), (.int (((rb 6) t)).toInt32)]) (W1 := (dW rv1 ra rb rt X)) (bs := []) rfl rfl rfl ?_
    refine XG.br eX3_takeInt_34 (P := (((rb 6) t)).toInt32 ≤ (nI hi)) (r := []) rfl (tgt := 44) (by decide) (fun h34 => ?_) (fun h34 => ?_)
    · skip
      refine XG.blk tX3_takeInt_ok 26 1 (pc' := 45) (pl' := [some (.ref 0), some (.int (nI lo)), some (.int (nI hi)), some (.int (((rb 6) t)).toInt32), some (.int ((ra 5) t))]) (st' := [(.int (((rb 6) t)).toInt32)]) (W1 := (dW rv1 ra rb rt X)) (bs := []) rfl rfl rfl ?_
      refine XS.iret eX3_takeInt_45 rfl rfl ?_
      have hb := PVc.bnd hT hP hP1 ht h8 hlo hhi
      exact ⟨_, _, rfl, (hc1.mono (by decide)), hb.2.1 ⟨Int32.not_lt.mp h29, h34⟩, rfl, hb.2.2⟩
    · skip
      refine XG.blk tX3_takeInt_ok 22 3 (pc' := 41) (pl' := [some (.ref 0), some (.int (nI lo)), some (.int (nI hi)), some (.int (((rb 6) t)).toInt32), some (.int ((ra 5) t))]) (st' := [(.int ((ra 5) t)), (.int (nI 5)), (.ref 0)]) (W1 := (dW rv1 ra rb rt X)) (bs := []) rfl rfl rfl ?_
      refine XG.callV0 eX3_takeInt_41 kl_X3_79 (cc_noteLater (d - 1) rv1 ra rb rt X (nI 5) ((ra 5) t)) (px_fitS (by omega)) rfl rfl rfl (Nat.le_of_ble_eq_true rfl) (fun r9 W9 hp9 hl9 => ?_)
      obtain ⟨rfl, rfl⟩ := hp9
      show XG _ _ _ _ _ _ [] (dW (ntV rv1 (nI 5) ((ra 5) t)) ra rb rt X)
      refine XG.blk tX3_takeInt_ok 26 1 (pc' := 45) (pl' := [some (.ref 0), some (.int (nI lo)), some (.int (nI hi)), some (.int (((rb 6) t)).toInt32), some (.int ((ra 5) t))]) (st' := [(.int (((rb 6) t)).toInt32)]) (W1 := (dW (ntV rv1 (nI 5) ((ra 5) t)) ra rb rt X)) (bs := []) rfl rfl rfl ?_
      refine XS.iret eX3_takeInt_45 rfl rfl ?_
      have hb := PVc.bnd hT hP hP1 ht h8 hlo hhi
      exact ⟨_, _, rfl, ((hc1.mono (by decide)).tr (ntV_chg.mono (by decide))), hb.1 (fun z => h34 z.2), rfl, hb.2.2⟩
set_option maxHeartbeats 1000000 in
theorem cc_takeNewName (d : Nat) (rv : Nat → Int32) (ra : Nat → Nat → Int32) (rb : Nat → Nat → Int64) (tv : Nat → Int32) (ta : Nat → Nat → Int32) (tb : Nat → Nat → Int64) (K : TKS) (hT : CTk K ra rb) (r : PE ⊕ PT) (hP : PVc K r rv) (nl : NmL) (hN : NmC nl tb) (hm : tv 1 = nI (slN nl).length) (hm2 : (slN nl).length ≤ 6) (hc : tv 3 = nI (crN nl).length) (hc2 : (crN nl).length ≤ 5) (hd : 2 ≤ d) : Con mX3_takeNewName d [.ref 0] (dW rv ra rb (.ref 6) (xW tv ta tb)) (fun q W' => ∃ rv' x, W' = dW rv' ra rb (.ref 6) (xW tv ta tb) ∧ chg [1, 8, 9, 10, 11] rv rv' ∧ PVc K (bd r (nameS K nl)) rv' ∧ q = some (.long x) ∧ ∀ s s', r = .inr s → nameS K nl s = .inr s' → x = lN (enc 32 (K.2.2.2 s.1)) ∧ vNm (K.2.2.2 s.1)) := by
  obtain ⟨t, ht, h8⟩ := hP.t
  refine Con.of (by decide) (Nat.le_of_ble_eq_true rfl) ?_
  have q1 : (rv 8) = (nI t) := h8
  have q2 : (nI t).toNatClampNeg = t := nI_clamp (by omega)
  refine XG.blk tX3_takeNewName_ok 0 14 (pc' := 22) (pl' := [some (.ref 0), some (.long ((rb 6) (rv 8).toNatClampNeg)), none, some (.int ((ra 5) (rv 8).toNatClampNeg))]) (st' := [(.int (nI 2)), (.ref 0)]) (W1 := (dW rv ra rb (.ref 6) (xW tv ta tb))) (bs := [px_vb (rv 8) 402, px_vb (rv 8) 402]) rfl rfl (by (try simp only [q1, q2]); exact (px_all (px_vbN (by omega) (by decide)) (px_all (px_vbN (by omega) (by decide)) rfl))) ?_
  simp only [q1, q2]
  refine XG.callV0 eX3_takeNewName_22 kl_X3_130 (cc_take (d - 1) rv ra rb (.ref 6) (xW tv ta tb) K hT r hP 1 (by unfold vk; omega) (by decide)) (px_fitS (by omega)) rfl rfl rfl (Nat.le_of_ble_eq_true rfl) (fun r9 W9 hp9 hl9 => ?_)
  obtain ⟨rv1, rfl, hc1, hP1, rfl⟩ := hp9
  show XG _ _ _ _ _ _ [] (dW rv1 ra rb (.ref 6) (xW tv ta tb))
  refine XG.blk tX3_takeNewName_ok 15 2 (pc' := 29) (pl' := [some (.ref 0), some (.long ((rb 6) t)), none, some (.int ((ra 5) t))]) (st' := [(.int (rv1 9))]) (W1 := (dW rv1 ra rb (.ref 6) (xW tv ta tb))) (bs := []) rfl rfl rfl ?_
  refine XG.br eX3_takeNewName_29 (P := ¬ (rv1 9) = 0) (r := []) rfl (tgt := 49) (by decide) (fun h29 => ?_) (fun h29 => ?_)
  · skip
    refine XG.blk tX3_takeNewName_ok 27 1 (pc' := 50) (pl' := [some (.ref 0), some (.long ((rb 6) t)), none, some (.int ((ra 5) t))]) (st' := [(.long ((rb 6) t))]) (W1 := (dW rv1 ra rb (.ref 6) (xW tv ta tb))) (bs := []) rfl rfl rfl ?_
    refine XS.lret eX3_takeNewName_50 rfl ?_
    have hb := PVc.name hT hP hP1 ht h8 hN
    exact ⟨_, _, rfl, (hc1.mono (by decide)), hb.1 h29, rfl, hb.2.2⟩
  · skip
    have h29 := Decidable.not_not.mp h29
    refine XG.blk tX3_takeNewName_ok 18 3 (pc' := 37) (pl' := [some (.ref 0), some (.long ((rb 6) t)), none, some (.int ((ra 5) t))]) (st' := [(.long ((rb 6) t)), (.ref 6)]) (W1 := (dW rv1 ra rb (.ref 6) (xW tv ta tb))) (bs := []) rfl rfl rfl ?_
    refine XG.callV (ro := [6, 7, 8, 9, 10, 11, 12, 13, 14, 15, 16, 17, 18, 19, 20]) (W1 := (tW tv ta tb)) eX3_takeNewName_37 kl_X3_201 (cc_isTaken (d - 1) tv ta tb (rb 6 t) _ _ hm hm2 hc hc2 (by omega)) (px_fitS (by omega)) rfl ⟨rfl, by decide, by decide⟩ rfl rfl (Nat.le_of_ble_eq_true rfl) (fun r9 W9 hp9 hl9 => ?_)
    obtain ⟨rfl, rfl⟩ := hp9
    rw [pt_et]
    show XG _ _ _ _ _ _ [(.int (if (findN (fun i => decide (tb 13 i = rb 6 t)) (crN nl).length 0).isSome = true ∨ (findN (fun i => decide (tb 7 i = rb 6 t)) (slN nl).length 0).isSome = true then 1 else 0))] (dW rv1 ra rb (.ref 6) (xW tv ta tb))
    refine XG.br eX3_takeNewName_40 (P := (if (findN (fun i => decide (tb 13 i = rb 6 t)) (crN nl).length 0).isSome = true ∨ (findN (fun i => decide (tb 7 i = rb 6 t)) (slN nl).length 0).isSome = true then 1 else 0) = 0) (r := []) rfl (tgt := 49) (by decide) (fun h40 => ?_) (fun h40 => ?_)
    · skip
      refine XG.blk tX3_takeNewName_ok 27 1 (pc' := 50) (pl' := [some (.ref 0), some (.long ((rb 6) t)), none, some (.int ((ra 5) t))]) (st' := [(.long ((rb 6) t))]) (W1 := (dW rv1 ra rb (.ref 6) (xW tv ta tb))) (bs := []) rfl rfl rfl ?_
      refine XS.lret eX3_takeNewName_50 rfl ?_
      have hb := PVc.name hT hP hP1 ht h8 hN
      exact ⟨_, _, rfl, (hc1.mono (by decide)), (hb.2.1 h29).2 (one_ne.mp h40), rfl, hb.2.2⟩
    · skip
      refine XG.blk tX3_takeNewName_ok 23 3 (pc' := 46) (pl' := [some (.ref 0), some (.long ((rb 6) t)), none, some (.int ((ra 5) t))]) (st' := [(.int ((ra 5) t)), (.int (nI 3)), (.ref 0)]) (W1 := (dW rv1 ra rb (.ref 6) (xW tv ta tb))) (bs := []) rfl rfl rfl ?_
      refine XG.callV0 eX3_takeNewName_46 kl_X3_79 (cc_noteLater (d - 1) rv1 ra rb (.ref 6) (xW tv ta tb) (nI 3) ((ra 5) t)) (px_fitS (by omega)) rfl rfl rfl (Nat.le_of_ble_eq_true rfl) (fun r9 W9 hp9 hl9 => ?_)
      obtain ⟨rfl, rfl⟩ := hp9
      show XG _ _ _ _ _ _ [] (dW (ntV rv1 (nI 3) ((ra 5) t)) ra rb (.ref 6) (xW tv ta tb))
      refine XG.blk tX3_takeNewName_ok 27 1 (pc' := 50) (pl' := [some (.ref 0), some (.long ((rb 6) t)), none, some (.int ((ra 5) t))]) (st' := [(.long ((rb 6) t))]) (W1 := (dW (ntV rv1 (nI 3) ((ra 5) t)) ra rb (.ref 6) (xW tv ta tb))) (bs := []) rfl rfl rfl ?_
      refine XS.lret eX3_takeNewName_50 rfl ?_
      have hb := PVc.name hT hP hP1 ht h8 hN
      exact ⟨_, _, rfl, ((hc1.mono (by decide)).tr (ntV_chg.mono (by decide))), (hb.2.1 h29).1 (Decidable.not_not.mp (fun z => h40 (one_ne.mpr z))), rfl, hb.2.2⟩
set_option maxHeartbeats 1000000 in
theorem cc_takeSleeper (d : Nat) (rv : Nat → Int32) (ra : Nat → Nat → Int32) (rb : Nat → Nat → Int64) (tv : Nat → Int32) (ta : Nat → Nat → Int32) (tb : Nat → Nat → Int64) (K : TKS) (hT : CTk K ra rb) (r : PE ⊕ PT) (hP : PVc K r rv) (nl : NmL) (hN : NmC nl tb) (hm : tv 1 = nI (slN nl).length) (hm2 : (slN nl).length ≤ 6) (hc : tv 3 = nI (crN nl).length) (hc2 : (crN nl).length ≤ 5) (hd : 1 ≤ d) : Con mX3_takeSleeper d [.ref 0] (dW rv ra rb (.ref 6) (xW tv ta tb)) (fun q W' => ∃ rv' x, W' = dW rv' ra rb (.ref 6) (xW tv ta tb) ∧ chg [1, 8, 9, 10, 11] rv rv' ∧ PVc K (bd r (knwS K nl)) rv' ∧ q = some (.int x) ∧ ∀ s s', r = .inr s → mstS K 1 s = .inr s' → x = fnX nl (K.2.2.2 s.1)) := by
  obtain ⟨t, ht, h8⟩ := hP.t
  refine Con.of (by decide) (Nat.le_of_ble_eq_true rfl) ?_
  have q1 : (rv 8) = (nI t) := h8
  have q2 : (nI t).toNatClampNeg = t := nI_clamp (by omega)
  refine XG.blk tX3_takeSleeper_ok 0 7 (pc' := 13) (pl' := [some (.ref 0), none, none]) (st' := [(.long ((rb 6) (rv 8).toNatClampNeg)), (.ref 6)]) (W1 := (dW rv ra rb (.ref 6) (xW tv ta tb))) (bs := [px_vb (rv 8) 402]) rfl rfl (by (try simp only [q1, q2]); exact (px_all (px_vbN (by omega) (by decide)) rfl)) ?_
  simp only [q1, q2]
  refine XG.callV (ro := [6, 7, 8, 9, 10, 11, 12, 13, 14, 15, 16, 17, 18, 19, 20]) (W1 := (tW tv ta tb)) eX3_takeSleeper_13 kl_X3_205 (cc_sleeperNamed (d - 1) tv ta tb (rb 6 t) _ hm hm2) (px_fitS (by omega)) rfl ⟨rfl, by decide, by decide⟩ rfl rfl (Nat.le_of_ble_eq_true rfl) (fun r9 W9 hp9 hl9 => ?_)
  obtain ⟨rfl, rfl⟩ := hp9
  rw [pt_et]
  show XG _ _ _ _ _ _ [(.int (ofF (findN (fun i => decide (tb 7 i = rb 6 t)) (slN nl).length 0) (fun i => nI i) (-1)))] (dW rv ra rb (.ref 6) (xW tv ta tb))
  have q3 : (rv 8) = (nI t) := h8
  have q4 : (nI t).toNatClampNeg = t := nI_clamp (by omega)
  refine XG.blk tX3_takeSleeper_ok 8 9 (pc' := 29) (pl' := [some (.ref 0), some (.int (ofF (findN (fun i => decide (tb 7 i = rb 6 t)) (slN nl).length 0) (fun i => nI i) (-1))), some (.int ((ra 5) (rv 8).toNatClampNeg))]) (st' := [(.int (nI 2)), (.ref 0)]) (W1 := (dW rv ra rb (.ref 6) (xW tv ta tb))) (bs := [px_vb (rv 8) 402]) rfl rfl (by (try simp only [q3, q4]); exact (px_all (px_vbN (by omega) (by decide)) rfl)) ?_
  simp only [q3, q4]
  refine XG.callV0 eX3_takeSleeper_29 kl_X3_130 (cc_take (d - 1) rv ra rb (.ref 6) (xW tv ta tb) K hT r hP 1 (by unfold vk; omega) (by decide)) (px_fitS (by omega)) rfl rfl rfl (Nat.le_of_ble_eq_true rfl) (fun r9 W9 hp9 hl9 => ?_)
  obtain ⟨rv1, rfl, hc1, hP1, rfl⟩ := hp9
  show XG _ _ _ _ _ _ [] (dW rv1 ra rb (.ref 6) (xW tv ta tb))
  refine XG.blk tX3_takeSleeper_ok 18 2 (pc' := 34) (pl' := [some (.ref 0), some (.int (ofF (findN (fun i => decide (tb 7 i = rb 6 t)) (slN nl).length 0) (fun i => nI i) (-1))), some (.int ((ra 5) t))]) (st' := [(.int (-1)), (.int (ofF (findN (fun i => decide (tb 7 i = rb 6 t)) (slN nl).length 0) (fun i => nI i) (-1)))]) (W1 := (dW rv1 ra rb (.ref 6) (xW tv ta tb))) (bs := []) rfl rfl rfl ?_
  refine XG.br eX3_takeSleeper_34 (P := ¬ (ofF (findN (fun i => decide (tb 7 i = rb 6 t)) (slN nl).length 0) (fun i => nI i) (-1)) = (-1)) (r := []) rfl (tgt := 43) (by decide) (fun h34 => ?_) (fun h34 => ?_)
  · skip
    refine XG.blk tX3_takeSleeper_ok 25 1 (pc' := 44) (pl' := [some (.ref 0), some (.int (ofF (findN (fun i => decide (tb 7 i = rb 6 t)) (slN nl).length 0) (fun i => nI i) (-1))), some (.int ((ra 5) t))]) (st' := [(.int (ofF (findN (fun i => decide (tb 7 i = rb 6 t)) (slN nl).length 0) (fun i => nI i) (-1)))]) (W1 := (dW rv1 ra rb (.ref 6) (xW tv ta tb))) (bs := []) rfl rfl rfl ?_
    refine XS.iret eX3_takeSleeper_44 rfl rfl ?_
    have hb := PVc.known hT hP hP1 ht h8 hN hm2
    exact ⟨_, _, rfl, (hc1.mono (by decide)), hb.2.1 h34, rfl, hb.2.2⟩
  · skip
    have h34 := Decidable.not_not.mp h34
    refine XG.blk tX3_takeSleeper_ok 21 3 (pc' := 40) (pl' := [some (.ref 0), some (.int (ofF (findN (fun i => decide (tb 7 i = rb 6 t)) (slN nl).length 0) (fun i => nI i) (-1))), some (.int ((ra 5) t))]) (st' := [(.int ((ra 5) t)), (.int (nI 4)), (.ref 0)]) (W1 := (dW rv1 ra rb (.ref 6) (xW tv ta tb))) (bs := []) rfl rfl rfl ?_
    refine XG.callV0 eX3_takeSleeper_40 kl_X3_79 (cc_noteLater (d - 1) rv1 ra rb (.ref 6) (xW tv ta tb) (nI 4) ((ra 5) t)) (px_fitS (by omega)) rfl rfl rfl (Nat.le_of_ble_eq_true rfl) (fun r9 W9 hp9 hl9 => ?_)
    obtain ⟨rfl, rfl⟩ := hp9
    show XG _ _ _ _ _ _ [] (dW (ntV rv1 (nI 4) ((ra 5) t)) ra rb (.ref 6) (xW tv ta tb))
    refine XG.blk tX3_takeSleeper_ok 25 1 (pc' := 44) (pl' := [some (.ref 0), some (.int (ofF (findN (fun i => decide (tb 7 i = rb 6 t)) (slN nl).length 0) (fun i => nI i) (-1))), some (.int ((ra 5) t))]) (st' := [(.int (ofF (findN (fun i => decide (tb 7 i = rb 6 t)) (slN nl).length 0) (fun i => nI i) (-1)))]) (W1 := (dW (ntV rv1 (nI 4) ((ra 5) t)) ra rb (.ref 6) (xW tv ta tb))) (bs := []) rfl rfl rfl ?_
    refine XS.iret eX3_takeSleeper_44 rfl rfl ?_
    have hb := PVc.known hT hP hP1 ht h8 hN hm2
    exact ⟨_, _, rfl, ((hc1.mono (by decide)).tr (ntV_chg.mono (by decide))), hb.1 h34, rfl, hb.2.2⟩
