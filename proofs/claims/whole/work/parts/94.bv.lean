/-! what a span bears, by the set of those asleep on it -/
theorem evC_eq {v w : Nat → Int32} (h : ∀ j, j < 9 → v j = w j) (cap e : Nat) : ∀ (c : Cde) (dp : Nat) (s : List Int32), hgC cap e c dp → evC v c s = evC w c s := by
  intro c
  induction c with
  | nil => intro dp s _; rfl
  | cons z c ih =>
    intro dp s hg
    rcases hg with ⟨h0, -, -, hg⟩ | ⟨h1, h2, -, hg⟩ | ⟨h2, -, -, -, hg⟩
    · rw [ev0 h0, ev0 h0]; exact ih _ _ hg
    · rw [ev1 h1, ev1 h1, h _ h2]; exact ih _ _ hg
    · have hz : 2 ≤ z.1 := by omega
      match s with
      | y :: x :: r =>
        rw [evO hz, evO hz]
        split
        · rfl
        · exact ih _ _ hg
      | [] => exact ((if_neg (by omega)).trans (if_neg (by omega))).trans ((if_neg (by omega)).trans (if_neg (by omega))).symm
      | [y] => exact ((if_neg (by omega)).trans (if_neg (by omega))).trans ((if_neg (by omega)).trans (if_neg (by omega))).symm
theorem evV_eq {v w : Nat → Int32} (h : ∀ j, j < 9 → v j = w j) {c : Cde} (hc : EXc c) : evV v c = evV w c := by
  unfold evV
  rw [evC_eq h 400 1 c 0 [] (hg_of hc)]
theorem lawV_eq {v w : Nat → Int32} (h : ∀ j, j < 9 → v j = w j) : ∀ bs : List LBr, (∀ br, br ∈ bs → lbC br) → lawV v bs = lawV w bs := by
  intro bs
  induction bs with
  | nil => intro _; rfl
  | cons br r ih =>
    intro hb
    have h1 := hb br List.mem_cons_self
    obtain ⟨c, t⟩ := br
    cases c with
    | none =>
      show (evV v t).getD 0 = (evV w t).getD 0
      rw [evV_eq h h1.1]
    | some cc =>
      have h2 := h1.2 cc rfl
      show (match evV v cc.1, evV v cc.2 with
        | some x, some y => if x < y then (evV v t).getD 0 else lawV v r
        | _, _ => 0) = (match evV w cc.1, evV w cc.2 with
        | some x, some y => if x < y then (evV w t).getD 0 else lawV w r
        | _, _ => 0)
      rw [evV_eq h h2.1, evV_eq h h2.2, evV_eq h h1.1, ih (fun b hb2 => hb b (List.mem_cons_of_mem _ hb2))]
theorem lawO_eq {v w : Nat → Int32} (h : ∀ j, j < 9 → v j = w j) {lw : Option (List LBr)} (hl : ∀ bs, lw = some bs → ∀ br, br ∈ bs → lbC br) (x : Int32) : lawO v lw x = lawO w lw x := by
  cases lw with
  | none => rfl
  | some bs => exact lawV_eq h bs (hl bs rfl)
/-- what a law sees of sleeper x, if it lay on p with b others -/
def seF (S : SD) (lv : Nat) (a : Nat → Nat → Int32) (R : Nat → Int32) (p b : Int32) (x : Nat) : Nat → Int32
  | 0 => R x
  | 1 => a 26 (6 * lv + x)
  | 2 => R 28
  | 3 => itN (noiseF R (a 33) lv) 0 (S.1 31)
  | 4 => nI x
  | 5 => p
  | 6 => b
  | 7 => itN (loadF R (a 32) lv p) 0 (S.1 31)
  | 8 => a 27 (6 * lv + x)
  | _ => 0
theorem look_se (S : SD) (lv : Nat) (a : Nat → Nat → Int32) (R : Nat → Int32) (dawn : Int32) (sl x : Nat) : ∀ j, j < 9 → lookF R dawn (a 26) (a 27) (a 32) (a 33) lv sl (S.1 31) x (fun _ => 0) j = seF S lv a R (R (12 + x)) (itN (bsF R dawn x) 0 sl) x j := by
  intro j hj
  match j, hj with
  | 0, _ => rfl
  | 1, _ => rfl
  | 2, _ => rfl
  | 3, _ => rfl
  | 4, _ => rfl
  | 5, _ => rfl
  | 6, _ => rfl
  | 7, _ => rfl
  | 8, _ => rfl
def plV (R : Nat → Int32) (k x : Nat) : Int32 := if k = 0 then R x else nI 0
def aV (S : SD) (lv : Nat) (a : Nat → Nat → Int32) (R : Nat → Int32) (k : Nat) (p b : Int32) (x : Nat) (lo hi : Int32) : Int32 := heldF (lawO (seF S lv a R p b x) (S.2.2.2.2 k) (plV R k x)) lo hi
theorem TxR.u55 {S : SD} {lv : Nat} {a : Nat → Nat → Int32} (h : TxR S lv a) (R : Nat → Int32) : TxR S lv (va_up a 55 R) := h.eq (fun k hk => va_up_ne a R (fun e => by rw [e] at hk; revert hk; decide))
theorem ask_aV {S : SD} {lv : Nat} {a : Nat → Nat → Int32} (hT : TxR S lv a) (hs : shpS S) (hlv : lv < 2) (R : Nat → Int32) {k : Nat} (hk : k < 3) (x : Nat) (lo hi : Int32) : askV (va_up a 55 R) lv (S.1 24) (S.1 31) k x (plV R k x) lo hi = aV S lv a R k (R (12 + x)) (itN (bsF R (nI (S.1 35)) x) 0 (S.1 24)) x lo hi := by
  unfold askV aV
  rw [(hT.u55 R).law hs hlv hk]
  congr 1
  refine lawO_eq (fun j hj => ?_) (fun bs hb => (hs.2.2.2.2.2 k bs hb).1) _
  rw [show va_up a 55 R 35 lv = nI (S.1 35) from (hT.u55 R).1 35 (by decide)]
  exact look_se S lv a R _ _ x j hj
/-! counting -/
def cB (P : Nat → Bool) : Nat → Nat
  | 0 => 0
  | n + 1 => if P n = true then cB P n + 1 else cB P n
theorem cB_congr {P Q : Nat → Bool} : ∀ n, (∀ k, k < n → P k = Q k) → cB P n = cB Q n := by
  intro n
  induction n with
  | zero => intro _; rfl
  | succ n ih => intro h; unfold cB; rw [ih (fun k hk => h k (by omega)), h n (Nat.lt_succ_self _)]
theorem cB_ext {P : Nat → Bool} {n : Nat} (h : ∀ k, n ≤ k → P k = false) : ∀ m, n ≤ m → cB P m = cB P n := by
  intro m hm
  induction m with
  | zero => rw [show n = 0 by omega]
  | succ m ih =>
    by_cases h2 : n = m + 1
    · rw [h2]
    · show (if P m = true then _ else _) = _
      rw [if_neg (by rw [h m (by omega)]; decide)]
      exact ih (by omega)
theorem cB_le (P : Nat → Bool) : ∀ n, cB P n ≤ n := by
  intro n
  induction n with
  | zero => exact Nat.le_refl _
  | succ n ih => unfold cB; split <;> omega
theorem cB_pos {P : Nat → Bool} {x : Nat} (hx : P x = true) : ∀ n, x < n → 1 ≤ cB P n := by
  intro n
  induction n with
  | zero => intro h; omega
  | succ n ih =>
    intro h
    unfold cB
    by_cases h2 : x = n
    · subst h2; rw [if_pos hx]; omega
    · have := ih (by omega)
      split <;> omega
theorem cB_rm {P : Nat → Bool} {x : Nat} (hx : P x = true) : ∀ n, x < n → cB P n = cB (fun y => decide (y ≠ x) && P y) n + 1 := by
  intro n
  induction n with
  | zero => intro h; omega
  | succ n ih =>
    intro h
    show (if P n = true then cB P n + 1 else cB P n) = (if (decide (n ≠ x) && P n) = true then cB (fun y => decide (y ≠ x) && P y) n + 1 else cB (fun y => decide (y ≠ x) && P y) n) + 1
    by_cases h2 : x = n
    · subst h2
      rw [if_pos hx, if_neg (by simp)]
      congr 1
      exact cB_congr _ (fun k hk => by simp [show ¬ k = x by omega])
    · rw [ih (by omega)]
      by_cases h3 : P n = true
      · rw [if_pos h3, if_pos (by simp [h3]; omega)]
      · rw [if_neg h3, if_neg (by simp [h3])]
theorem pcN_cB (m : Nat) : ∀ n, pcN m n = cB m.testBit n := by
  intro n
  induction n with
  | zero => rfl
  | succ n ih => unfold pcN cB; rw [ih]
theorem pc_mk (P : Nat → Bool) {n : Nat} (h : n ≤ 6) : pcN (mkN P n) 6 = cB P n := by
  rw [pcN_cB]
  rw [cB_ext (n := n) (fun k hk => by rw [mkN_bit]; simp [show ¬ k < n by omega]) 6 h]
  exact cB_congr _ (fun k hk => by rw [mkN_bit]; simp [hk])
theorem it_cB {f : Nat → Int32 → Int32} {P : Nat → Bool} {n : Nat} (h : ∀ i, i < n → ∀ s, f i s = if P i = true then s + nI 1 else s) (x : Int32) : itN f x n = x + nI (cB P n) := by
  induction n with
  | zero => exact (Int32.add_zero _).symm
  | succ n ih =>
    show f n (itN f x n) = x + nI (if P n = true then _ else _)
    rw [ih (fun i hi => h i (by omega)), h n (Nat.lt_succ_self _)]
    split
    · rw [Int32.add_assoc, nI_add]
    · rfl
theorem mOn_bit {S : SD} {R : Nat → Int32} {p : Int32} (x : Nat) : (mOn S R p).testBit x = (decide (x < S.1 24) && onB R (nI (S.1 35)) p x) := mkN_bit _ _ _
/-- the others asleep on the same span -/
theorem bs_pc {S : SD} {R : Nat → Int32} (hsl : S.1 24 ≤ 6) {x : Nat} (hx : (mOn S R (R (12 + x))).testBit x = true) : itN (bsF R (nI (S.1 35)) x) 0 (S.1 24) = nI (pcN (mOn S R (R (12 + x))) 6 - 1) := by
  have h1 : x < S.1 24 ∧ onB R (nI (S.1 35)) (R (12 + x)) x = true := by rw [mOn_bit] at hx; simpa using hx
  rw [it_cB (P := fun y => decide (y ≠ x) && onB R (nI (S.1 35)) (R (12 + x)) y) (fun i hi s => ?_) 0, Int32.zero_add]
  · congr 1
    unfold mOn
    rw [pc_mk _ hsl, cB_rm h1.2 _ h1.1, Nat.add_sub_cancel]
  · unfold bsF
    rw [ite_dec]
    congr 2
    unfold onB slpB bsP
    by_cases h2 : i = x <;> by_cases h3 : slp R (nI (S.1 35)) i <;> by_cases h4 : R (12 + i) = R (12 + x) <;> simp [h2, h3, h4]
/-! pairs -/
def cB2 (P : Nat → Nat → Bool) : Nat → Nat
  | 0 => 0
  | n + 1 => cB2 P n + cB (P n) n
theorem cB2_congr {P Q : Nat → Nat → Bool} : ∀ n, (∀ x y, x < n → y < x → P x y = Q x y) → cB2 P n = cB2 Q n := by
  intro n
  induction n with
  | zero => intro _; rfl
  | succ n ih => intro h; unfold cB2; rw [ih (fun x y hx hy => h x y (by omega) hy), cB_congr n (fun k hk => h n k (Nat.lt_succ_self _) hk)]
theorem cB_one {P Q : Nat → Bool} {w n : Nat} (hw : w < n) (h0 : P w = false) (h1 : Q w = true) (h : ∀ k, k < n → k ≠ w → Q k = P k) : cB Q n = cB P n + 1 := by
  rw [cB_rm h1 n hw]
  congr 1
  refine cB_congr n (fun k hk => ?_)
  by_cases hk2 : k = w
  · subst hk2; simp [h0]
  · simp [hk2, h k hk hk2]
theorem cB2_one {P Q : Nat → Nat → Bool} {u w : Nat} (hw : w < u) (h0 : P u w = false) (h1 : Q u w = true) : ∀ n, u < n → (∀ x y, x < n → y < x → ¬ (x = u ∧ y = w) → Q x y = P x y) → cB2 Q n = cB2 P n + 1 := by
  intro n
  induction n with
  | zero => intro h; omega
  | succ n ih =>
    intro hu h
    unfold cB2
    by_cases hn : u = n
    · subst hn
      rw [cB_one hw h0 h1 (fun k hk hk2 => h u k (by omega) hk (fun z => hk2 z.2)), cB2_congr u (fun x y hx hy => h x y (by omega) hy (fun z => by omega))]
      omega
    · rw [ih (by omega) (fun x y hx hy z => h x y (by omega) hy z), cB_congr n (fun k hk => h n k (by omega) hk (fun z => hn z.1.symm))]
      omega
theorem cB2_0 {P : Nat → Nat → Bool} : ∀ n, (∀ x y, x < n → y < x → P x y = false) → cB2 P n = 0 := by
  intro n
  induction n with
  | zero => intro _; rfl
  | succ n ih =>
    intro h
    unfold cB2
    rw [ih (fun x y hx hy => h x y (by omega) hy), cB_congr (Q := fun _ => false) n (fun k hk => h n k (Nat.lt_succ_self _) hk), cB_ext (n := 0) (fun k _ => rfl) n (Nat.zero_le _)]
    rfl
theorem prM_all : ∀ x y : Fin 6, ∀ m : Fin 64, ((2 ^ x.val ||| 2 ^ y.val) &&& m.val = 2 ^ x.val ||| 2 ^ y.val) ↔ (m.val.testBit x.val = true ∧ m.val.testBit y.val = true) := by decide +kernel
theorem prM_in {x y m : Nat} (hx : x < 6) (hy : y < 6) (hm : m < 64) : prM (some (x, y)) &&& m = prM (some (x, y)) ↔ (m.testBit x = true ∧ m.testBit y = true) := prM_all ⟨x, hx⟩ ⟨y, hy⟩ ⟨m, hm⟩
abbrev prB (pr : List (Option (Nat × Nat))) (m : Nat) : Nat → Nat → Bool := fun x y => hasPr pr x y && (m.testBit x && m.testBit y)
theorem hasPr_not {pr : List (Option (Nat × Nat))} {x y : Nat} (h : ∀ i : Nat, pr[i]? ≠ some (some (x, y)) ∧ pr[i]? ≠ some (some (y, x))) : hasPr pr x y = false := by
  unfold hasPr
  rw [List.any_eq_false]
  intro e he
  obtain ⟨i, hi⟩ := List.mem_iff_getElem?.mp he
  have h1 := h i
  rw [hi] at h1
  simp only [Bool.or_eq_true, decide_eq_true_eq]
  rintro (z | z)
  · exact h1.1 (by rw [z])
  · exact h1.2 (by rw [z])
theorem prC_cB2 {pr : List (Option (Nat × Nat))} {n m : Nat} (hn : n ≤ 6) (hm : m < 64) (h1 : ∀ e, e ∈ pr → ∃ x y, e = some (x, y) ∧ x ≠ y ∧ x < n ∧ y < n) (h2 : ∀ (i j : Nat) (x y : Nat), i < j → pr[j]? = some (some (x, y)) → pr[i]? ≠ some (some (x, y)) ∧ pr[i]? ≠ some (some (y, x))) : ∀ i, i ≤ pr.length → prC pr m i = cB2 (prB (pr.take i) m) n := by
  intro i
  induction i with
  | zero => intro _; exact (cB2_0 n (fun x y _ _ => rfl)).symm
  | succ i ih =>
    intro hi
    have he : pr[i]? = some pr[i] := List.getElem?_eq_getElem (by omega)
    obtain ⟨u, w, hz, hne, hu, hw⟩ := h1 pr[i] (List.getElem_mem _)
    rw [hz] at he
    rw [prC_s he, ih (by omega)]
    have ht : pr.take (i + 1) = pr.take i ++ [some (u, w)] := by rw [List.take_add_one, he]; rfl
    have hnot : hasPr (pr.take i) u w = false ∧ hasPr (pr.take i) w u = false := by
      have hh : ∀ k : Nat, (pr.take i)[k]? ≠ some (some (u, w)) ∧ (pr.take i)[k]? ≠ some (some (w, u)) := by
        intro k
        rw [List.getElem?_take]
        split
        · rename_i hk; exact h2 k i u w hk he
        · exact ⟨(by intro z; cases z), (by intro z; cases z)⟩
      exact ⟨hasPr_not hh, hasPr_not (fun k => ⟨(hh k).2, (hh k).1⟩)⟩
    have hval : ∀ x y, prB (pr.take (i + 1)) m x y = (prB (pr.take i) m x y || ((decide (x = u ∧ y = w) || decide (x = w ∧ y = u)) && (m.testBit x && m.testBit y))) := by
      intro x y
      show (hasPr _ x y && _) = _
      rw [ht, hasPr_app]
      have e1 : decide ((some (u, w) : Option (Nat × Nat)) = some (x, y)) = decide (x = u ∧ y = w) := decide_eq_decide.mpr ⟨fun z => by cases z; exact ⟨rfl, rfl⟩, fun z => by rw [z.1, z.2]⟩
      have e2 : decide ((some (u, w) : Option (Nat × Nat)) = some (y, x)) = decide (x = w ∧ y = u) := decide_eq_decide.mpr ⟨fun z => by cases z; exact ⟨rfl, rfl⟩, fun z => by rw [z.1, z.2]⟩
      rw [e1, e2, Bool.and_or_distrib_right]
    by_cases hin : prM (some (u, w)) &&& m = prM (some (u, w))
    · rw [if_pos hin]
      obtain ⟨b1, b2⟩ := (prM_in (by omega) (by omega) hm).mp hin
      rcases Nat.lt_or_gt_of_ne hne with hlt | hgt
      · refine (cB2_one (u := w) (w := u) hlt (by show (hasPr _ w u && _) = false; rw [hnot.2]; rfl) (by rw [hval]; simp [b1, b2]) n hw (fun x y hx hy hxy => ?_)).symm
        rw [hval]
        have c1 : ¬ (x = u ∧ y = w) := fun z => by omega
        simp [hxy, c1]
      · refine (cB2_one (u := u) (w := w) hgt (by show (hasPr _ u w && _) = false; rw [hnot.1]; rfl) (by rw [hval]; simp [b1, b2]) n hu (fun x y hx hy hxy => ?_)).symm
        rw [hval]
        have c1 : ¬ (x = w ∧ y = u) := fun z => by omega
        simp [hxy, c1]
    · rw [if_neg hin]
      refine cB2_congr n (fun x y hx hy => ?_)
      rw [hval]
      have hno : ¬ (m.testBit u = true ∧ m.testBit w = true) := fun z => hin ((prM_in (by omega) (by omega) hm).mpr z)
      have : ((decide (x = u ∧ y = w) || decide (x = w ∧ y = u)) && (m.testBit x && m.testBit y)) = false := by
        by_cases c1 : x = u ∧ y = w
        · rw [c1.1, c1.2]; cases e1 : m.testBit u <;> cases e2 : m.testBit w <;> simp_all
        · by_cases c2 : x = w ∧ y = u
          · rw [c2.1, c2.2]; cases e1 : m.testBit u <;> cases e2 : m.testBit w <;> simp_all
          · simp [c1, c2]
      rw [this, Bool.or_false]
theorem dr_cB2 {S : SD} {lv : Nat} {a : Nat → Nat → Int32} (hT : TxR S lv a) (hsl : S.1 24 ≤ 6) (R : Nat → Int32) (p : Int32) : itN (drO R (nI (S.1 35)) (a 29) lv p) 0 (S.1 24) = nI (cB2 (prB S.2.2.2.1 (mOn S R p)) (S.1 24)) := by
  obtain ⟨mm, hmm⟩ := hT.2.2.2.1
  have hg : ∀ n, n ≤ S.1 24 → itN (drO R (nI (S.1 35)) (a 29) lv p) 0 n = nI (cB2 (prB S.2.2.2.1 (mOn S R p)) n) := by
    intro n
    induction n with
    | zero => intro _; rfl
    | succ n ih =>
      intro hn
      show itN (drI R (nI (S.1 35)) (a 29) lv p n) (itN (drO R (nI (S.1 35)) (a 29) lv p) 0 n) n = nI (_ + _)
      rw [ih (by omega), it_cB (P := prB S.2.2.2.1 (mOn S R p) n) (fun i hi s => ?_), nI_add]
      unfold drI
      rw [ite_dec]
      congr 2
      obtain ⟨e1, e2, e3⟩ := hmm n (by omega)
      have e4 : ((a 29 (6 * lv + n) >>> (nI i &&& 31)) &&& nI 1 = nI 1) ↔ hasPr S.2.2.2.1 n i = true := by rw [e1, ← e3 i (by omega)]; exact bitT' e2 (by omega)
      show decide (drP R (nI (S.1 35)) (a 29) lv p n i) = (hasPr _ n i && ((mOn S R p).testBit n && (mOn S R p).testBit i))
      rw [mOn_bit, mOn_bit]
      unfold onB slpB drP
      by_cases c0 : hasPr S.2.2.2.1 n i = true
      · have c5 := e4.mpr c0
        by_cases c1 : R (12 + n) = p <;> by_cases c2 : R (12 + i) = p <;> by_cases c3 : slp R (nI (S.1 35)) n <;> by_cases c4 : slp R (nI (S.1 35)) i <;> simp [c0, c1, c2, c3, c4, c5, show n < S.1 24 by omega, show i < S.1 24 by omega]
      · have c5 : ¬ _ := fun z => c0 (e4.mp z)
        rw [decide_eq_false (fun z => c5 z.1), show hasPr S.2.2.2.1 n i = false by simpa using c0, Bool.false_and]
  exact hg _ (Nat.le_refl _)
def bvF (S : SD) (lv : Nat) (a : Nat → Nat → Int32) (R : Nat → Int32) (p : Int32) (m : Nat) : Nat → Int32 → Int32 := fun x s => if m.testBit x = true then s + aV S lv a R 0 p (nI (pcN m 6 - 1)) x (nI 0) (nI 99) else s
def bV (S : SD) (lv : Nat) (a : Nat → Nat → Int32) (R : Nat → Int32) (p : Int32) (m : Nat) : Int32 := if m = 0 then 0 else itN (bvF S lv a R p m) (nI (S.1 36) * nI (prC S.2.2.2.1 m (S.1 30))) (S.1 24)
theorem itN_id {α : Type} {f : Nat → α → α} {x : α} : ∀ n, (∀ i, i < n → ∀ y, f i y = y) → itN f x n = x := by
  intro n
  induction n with
  | zero => intro _; rfl
  | succ n ih => intro h; show f n (itN f x n) = x; rw [h n (Nat.lt_succ_self _), ih (fun i hi => h i (by omega))]
theorem bears_bV {S : SD} {lv : Nat} {a : Nat → Nat → Int32} (hT : TxR S lv a) (hs : shpS S) (hr : rngS S) (hlv : lv < 2) (R : Nat → Int32) (p : Int32) : bR a lv (S.1 24) (S.1 31) R p = bV S lv a R p (mOn S R p) := by
  have hm : mOn S R p < 64 := mOn_64 hs.1
  have hp := prC_cB2 hs.1 hm hr.2.2.2.2.2.2.1 hr.2.2.2.2.2.2.2 _ (Nat.le_refl _)
  rw [List.take_length, hs.2.2.2.1] at hp
  have hu := hT.u55 R
  have h1 : bR a lv (S.1 24) (S.1 31) R p = itN (bvF S lv a R p (mOn S R p)) (nI (S.1 36) * nI (prC S.2.2.2.1 (mOn S R p) (S.1 30))) (S.1 24) := by
    unfold bR bears
    rw [show va_up a 55 R 36 lv = nI (S.1 36) from hu.1 36 (by decide), show va_up a 55 R 35 lv = nI (S.1 35) from hu.1 35 (by decide), show va_up a 55 R 55 = R from va_up_self _ _ _, show va_up a 55 R 29 = a 29 from va_up_ne _ _ (by decide), dr_cB2 hT hs.1, hp]
    refine itN_congr _ (fun x hx s => ?_)
    unfold brF bvF hN
    rw [mOn_bit, show va_up a 55 R 35 lv = nI (S.1 35) from hu.1 35 (by decide), show va_up a 55 R 55 = R from va_up_self _ _ _]
    by_cases c1 : R (12 + x) = p
    · rw [if_pos c1]
      by_cases c2 : slp R (nI (S.1 35)) x
      · have hb : (decide (x < S.1 24) && onB R (nI (S.1 35)) p x) = true := by unfold onB slpB; simp [hx, c1, c2]
        rw [if_pos c2, if_pos hb]
        congr 1
        subst c1
        rw [← bs_pc hs.1 (by rw [mOn_bit]; exact hb)]
        exact ask_aV hT hs hlv R (by decide) x _ _
      · rw [if_neg c2, if_neg (by unfold onB slpB; simp [c2])]
        exact Int32.add_zero _
    · rw [if_neg c1, if_neg (by unfold onB; simp [c1])]
  rw [h1]
  unfold bV
  split
  · rename_i h0
    rw [h0]
    have hz : prC S.2.2.2.1 0 (S.1 30) = 0 := by
      rw [← h0, hp, h0]
      exact cB2_0 _ (fun x y _ _ => by show (hasPr _ x y && (Nat.testBit 0 x && _)) = false; rw [Nat.zero_testBit]; simp)
    rw [itN_id _ (fun i hi y => by unfold bvF; rw [Nat.zero_testBit]; exact if_neg (by decide)), hz]
    exact Int32.mul_zero
  · rfl
