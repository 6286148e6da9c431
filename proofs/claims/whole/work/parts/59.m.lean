theorem nI_nn {n : Nat} (h : n < 2 ^ 31) : ¬ nI n < 0 := by
  rw [Int32.lt_iff_toInt_lt, nI_toInt h, show (0 : Int32).toInt = 0 from rfl]; omega
/-! the reference: order -/
/-- the first of the best: of those numbers below n that P names, by f -/
def bfF (P : Nat → Bool) (f : Nat → Int32) : Nat → Int32 × Int32 → Int32 × Int32 := fun y p => if P y = true ∧ (p.2 < 0 ∨ p.1 < f y) then (f y, nI y) else p
theorem bf_ex (P : Nat → Bool) (f : Nat → Int32) (x : Int32) : ∀ n, n < 2 ^ 31 → ((∀ y, y < n → P y = false) ∧ itN (bfF P f) (x, -1) n = (x, -1)) ∨ ∃ w, w < n ∧ P w = true ∧ itN (bfF P f) (x, -1) n = (f w, nI w) ∧ (∀ y, y < n → P y = true → f y ≤ f w) ∧ ∀ y, y < w → P y = true → f y < f w := by
  intro n
  induction n with
  | zero => intro _; exact Or.inl ⟨fun y hy => absurd hy (Nat.not_lt_zero _), rfl⟩
  | succ n ih =>
    intro hn
    have e : itN (bfF P f) (x, -1) (n + 1) = bfF P f n (itN (bfF P f) (x, -1) n) := rfl
    rw [e]
    rcases ih (by omega) with ⟨h1, h2⟩ | ⟨w, hw, hP, h2, h3, h4⟩
    · rw [h2]
      by_cases hp : P n = true
      · refine Or.inr ⟨n, by omega, hp, if_pos ⟨hp, Or.inl (show (-1 : Int32) < 0 by decide)⟩, fun y hy hpy => ?_, fun y hy hpy => absurd hpy (by rw [h1 y hy]; decide)⟩
        rcases (show y < n ∨ y = n by omega) with h | h
        · exact absurd hpy (by rw [h1 y h]; decide)
        · subst h; exact Int32.le_refl _
      · refine Or.inl ⟨fun y hy => ?_, if_neg (fun hc => hp hc.1)⟩
        rcases (show y < n ∨ y = n by omega) with h | h
        · exact h1 y h
        · subst h; simpa using hp
    · rw [h2]
      by_cases hp : P n = true ∧ f w < f n
      · refine Or.inr ⟨n, by omega, hp.1, if_pos ⟨hp.1, Or.inr hp.2⟩, fun y hy hpy => ?_, fun y hy hpy => Int32.lt_of_le_of_lt (h3 y hy hpy) hp.2⟩
        rcases (show y < n ∨ y = n by omega) with h | h
        · exact Int32.le_of_lt (Int32.lt_of_le_of_lt (h3 y h hpy) hp.2)
        · subst h; exact Int32.le_refl _
      · refine Or.inr ⟨w, by omega, hP, if_neg (fun hc => hc.2.elim (fun h => absurd h (nI_nn (by omega))) (fun h => hp ⟨hc.1, h⟩)), fun y hy hpy => ?_, h4⟩
        rcases (show y < n ∨ y = n by omega) with h | h
        · exact h3 y h hpy
        · subst h; exact Int32.not_lt.mp (fun z => hp ⟨hpy, z⟩)
/-- who is at home, of the first n -/
def hmL (row : Nat → Int32) (n : Nat) : List Nat := (List.range n).filter (fun c => decide (row (18 + c) = -2))
theorem hmL_s (row : Nat → Int32) (n : Nat) : hmL row (n + 1) = if row (18 + n) = -2 then hmL row n ++ [n] else hmL row n := by
  unfold hmL
  rw [List.range_succ, List.filter_append]
  by_cases h : row (18 + n) = -2
  · rw [if_pos h]; simp [h]
  · rw [if_neg h]; simp [h]
theorem hmL_len (row : Nat → Int32) (n : Nat) : (hmL row n).length ≤ n := by
  have h := List.length_filter_le (fun c => decide (row (18 + c) = -2)) (List.range n)
  rw [List.length_range] at h
  exact h
theorem hmL_lt {row : Nat → Int32} {n j : Nat} (h : j < (hmL row n).length) : (hmL row n).getD j 0 < n := by
  rw [List.getD_eq_getElem?_getD, List.getElem?_eq_getElem h, Option.getD_some]
  have h1 : (hmL row n)[j] ∈ hmL row n := List.getElem_mem h
  have h2 := (List.mem_filter.mp h1).1
  exact List.mem_range.mp h2
def atL (L : List Nat) (f : Nat → Int32) : Prop := ∀ j, j < L.length → f j = nI (L.getD j 0)
theorem atL_s {L : List Nat} {f : Nat → Int32} (h : atL L f) (c : Nat) : atL (L ++ [c]) (upd f L.length (nI c)) := by
  intro j hj
  rw [List.length_append] at hj
  rw [List.getD_eq_getElem?_getD]
  by_cases e : j = L.length
  · subst e; rw [pk_us, List.getElem?_append_right (Nat.le_refl _), Nat.sub_self]; rfl
  · have hl : j < L.length := by simp at hj; omega
    rw [pk_un e, h j hl, List.getElem?_append_left hl, List.getD_eq_getElem?_getD]
def orP (v : Nat → Int32) (a : Nat → Nat → Int32) (lv sp sl cr : Nat) (L : List Nat) : Nat → Bool := fun y => decide (okO L.length y ∧ ¬ tbV v a lv sp sl cr L.length (fun i => L.getD i 0) y < 0)
def orF (v : Nat → Int32) (a : Nat → Nat → Int32) (lv sp sl cr : Nat) (L : List Nat) : Nat → Int32 × Int32 → Int32 × Int32 := bfF (orP v a lv sp sl cr L) (fun y => tbV v a lv sp sl cr L.length (fun i => L.getD i 0) y)
def orR (x : Int32) (v : Nat → Int32) (a : Nat → Nat → Int32) (lv sp sl cr : Nat) (L : List Nat) : Int32 × Int32 := itN (orF v a lv sp sl cr L) (x, -1) (5 ^ L.length)
abbrev okI (hm : Nat) (p : Int32) : Prop := -1 ≤ p ∧ p ≤ nI hm - nI 1
theorem okI_vb {hm : Nat} (hh : hm ≤ 5) {p : Int32} (h : okI hm p) (h1 : ¬ p = -1) : px_vb p hm = true := by
  rw [px_vb_iff]
  have h2 := Int32.le_iff_toInt_le.mp h.1
  have h3 := Int32.le_iff_toInt_le.mp h.2
  rw [pk_sub_toInt (by omega) (by decide)] at h3
  have h4 : ¬ p.toInt = -1 := fun e => h1 (Int32.toInt_inj.mp (e.trans (by decide)))
  rw [show (-1 : Int32).toInt = -1 by decide] at h2
  omega
def qOrder (x : Int32) (v : Nat → Int32) (a : Nat → Nat → Int32) (lv sp sl cr : Nat) (p : Int32) : Int32 := if okI (hmL (a 54) cr).length p then (if p = -1 then (orR x v a lv sp sl cr (hmL (a 54) cr)).1 else nI ((hmL (a 54) cr).getD (dig (orR x v a lv sp sl cr (hmL (a 54) cr)).2.toNatClampNeg ((hmL (a 54) cr).length - 1 - p.toNatClampNeg)) 0)) else -1
theorem tbR_cg {v v' : Nat → Int32} {a a' : Nat → Nat → Int32} (h56 : v' 56 = v 56) (h57 : v' 57 = v 57) (h : ∀ k ∈ relT, a' k = a k) (lv sp sl cr hm : Nat) (hc : Nat → Nat) (y : Nat) (r : Nat → Int32) : ∀ n, tbR v' a' lv sp sl cr hm hc y r n = tbR v a lv sp sl cr hm hc y r n := by
  intro n
  unfold tbR
  refine itN_congr n (fun i _ z => ?_)
  simp only [tbF]
  exact hourF_cg h56 h57 h lv sp sl cr _
theorem tbV_Q {v v' : Nat → Int32} {a a' : Nat → Nat → Int32} (h : Qs v v' a a') (lv sp sl cr hm : Nat) (hc : Nat → Nat) (y : Nat) : tbV v' a' lv sp sl cr hm hc y = tbV v a lv sp sl cr hm hc y := by
  unfold tbV
  rw [tbR_cg h.v56 rfl h.rel, h.2 54 (by decide)]
theorem con_tbQ (d : Nat) (v v9 : Nat → Int32) (a a9 : Nat → Nat → Int32) (b : Nat → Nat → Int64) (hQ : Qs v v9 a a9) (lv sp sl cr : Nat) (I : MI v a lv sp sl cr) (hwf : wf3 a lv) (L : List Nat) (y : Nat) (h66 : v9 66 = nI L.length) (hm5 : L.length ≤ 5) (hy : y < 2 ^ 31) (hat : atL L (a9 65)) (hL : ∀ j, j < L.length → L.getD j 0 < cr) (hok : okO L.length y) (hd : 9 ≤ d) : Con mX9_tollBy d [.ref 0, .int (nI y)] (mW v9 a9 b) (fun r W' => ∃ v' a', W' = mW v' a' b ∧ Qs v v' a a' ∧ chg [53, 56, 57] v9 v' ∧ a' 65 = a9 65 ∧ r = some (.int (tbV v a lv sp sl cr L.length (fun i => L.getD i 0) y))) := by
  have h1 := con_tollBy d v9 a9 b lv sp sl cr (hQ.MI I) (hQ.w3 hwf) L.length y h66 hm5 hy (fun i => L.getD i 0) (fun i hi => ⟨hat i hi, hL i hi⟩) hok hd
  rw [tbV_Q hQ] at h1
  refine h1.mono (fun r W' hp => ?_)
  obtain ⟨v', a', rfl, hv, ha, rfl⟩ := hp
  exact ⟨v', a', rfl, hQ.tr ⟨hv.mono (by decide), ha.mono (by decide)⟩, hv, ha 65 (by decide), rfl⟩
