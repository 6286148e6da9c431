/-! TOKENS out of bytes -/
abbrev ltr (x : Nat) : Prop := 97 ≤ x ∧ x ≤ 122
abbrev dgt (x : Nat) : Prop := 48 ≤ x ∧ x ≤ 57
abbrev blk (x : Nat) : Prop := x = 9 ∨ x = 10 ∨ x = 13 ∨ x = 32
def atB (B : Nat → Nat) (n i : Nat) : Nat := if i < n then B i else 0
def runE (p : Nat → Bool) : Nat → Nat → Nat
  | 0, i => i
  | f + 1, i => if p i = true then runE p f (i + 1) else i
theorem runE_yes {p : Nat → Bool} {f i : Nat} (h : p i = true) : runE p (f + 1) i = runE p f (i + 1) := if_pos h
theorem runE_no {p : Nat → Bool} {f i : Nat} (h : ¬ p i = true) : runE p f i = i := by
  cases f with
  | zero => rfl
  | succ f => exact if_neg h
/-- the end of a run: all ahead of it are so, it is not -/
theorem runE_spec {p : Nat → Bool} {n : Nat} (hp : ∀ i, p i = true → i < n) : ∀ f i, n ≤ i + f → i ≤ runE p f i ∧ (∀ j, i ≤ j → j < runE p f i → p j = true) ∧ ¬ p (runE p f i) = true ∧ (i ≤ n → runE p f i ≤ n) := by
  intro f
  induction f with
  | zero =>
    intro i h
    refine ⟨Nat.le_refl _, fun j h1 h2 => ?_, fun h2 => ?_, fun h => h⟩
    · have h2 : j < i := h2; omega
    · have := hp _ h2; have h3 : i < n := this; omega
  | succ f ih =>
    intro i h
    by_cases hi : p i = true
    · rw [runE_yes hi]
      obtain ⟨h1, h2, h3, h4⟩ := ih (i + 1) (by omega)
      refine ⟨by omega, fun j hj hj2 => ?_, h3, fun _ => h4 (by have := hp i hi; omega)⟩
      by_cases e : j = i
      · subst e; exact hi
      · exact h2 j (by omega) hj2
    · rw [runE_no hi]
      exact ⟨Nat.le_refl _, fun j h1 h2 => by omega, hi, fun h => h⟩
theorem runE_mid {p : Nat → Bool} {n : Nat} (hp : ∀ i, p i = true → i < n) {i : Nat} (h : p i = true) : runE p (n + 1) i = runE p (n + 1) (i + 1) := by
  have h1 := runE_spec hp (n + 1) (i + 1) (by omega)
  have h2 := runE_spec hp (n + 1) i (by omega)
  have h3 : i < runE p (n + 1) i := by
    rcases Nat.lt_or_ge i (runE p (n + 1) i) with h9 | h9
    · exact h9
    · have : runE p (n + 1) i = i := by omega
      rw [this] at h2; exact absurd h h2.2.2.1
  rcases Nat.lt_trichotomy (runE p (n + 1) i) (runE p (n + 1) (i + 1)) with h9 | h9 | h9
  · exact absurd (h1.2.1 _ (by omega) h9) h2.2.2.1
  · exact h9
  · exact absurd (h2.2.1 _ (by omega) h9) h1.2.2.1
def wEndP (B : Nat → Nat) (n : Nat) : Nat → Bool := fun j => decide (j < n ∧ ltr (B j))
def wEnd (B : Nat → Nat) (n i : Nat) : Nat := runE (wEndP B n) (n + 1) i
def dEndP (B : Nat → Nat) (n : Nat) : Nat → Bool := fun j => decide (j < n ∧ dgt (B j))
def dEnd (B : Nat → Nat) (n i : Nat) : Nat := runE (dEndP B n) (n + 1) i
def skpP (B : Nat → Nat) (n : Nat) : Nat → Bool := fun j => decide (j < n ∧ blk (B j))
def skp (B : Nat → Nat) (n i : Nat) : Nat := runE (skpP B n) (n + 1) i
def lets (B : Nat → Nat) (i q : Nat) : List Nat := (List.range q).map (fun k => B (i + k) - 96)
def vals (B : Nat → Nat) (i : Nat) : Nat → Nat
  | 0 => 0
  | q + 1 => 10 * vals B i q + B (i + q) - 48
def wds : List (List Nat) := [[19, 16, 1, 14, 19], [19, 12, 5, 5, 16, 5, 18], [16, 1, 9, 18], [3, 18, 15, 19, 19, 5, 18], [8, 15, 12, 4, 19], [23, 1, 11, 5, 19], [4, 5, 5, 16, 5, 14, 19], [4, 1, 23, 14], [2, 15, 14, 21, 19], [19, 5, 5, 4], [9, 6], [20, 8, 5, 14], [5, 12, 19, 5], [4, 5, 16, 20, 8], [23, 5, 9, 7, 8, 20], [8, 15, 21, 18], [14, 15, 9, 19, 5], [23, 8, 9, 3, 8], [19, 16, 1, 14], [2, 5, 19, 9, 4, 5], [12, 15, 1, 4], [23, 1, 7, 5]]
def kwF (l : List Nat) : Nat → Nat
  | 0 => 1
  | q + 1 => if wds.getD q [] = l then 20 + q else kwF l q
def sgnK (x : Nat) : Nat := if x = 60 then 13 else if x = 47 then 15 else if x = 42 then 10 else if x = 45 then 9 else if x = 43 then 8 else if x = 59 then 4 else if x = 61 then 5 else if x = 40 then 6 else if x = 41 then 7 else 3
/-- a token from i on: kind, number, letters, end -/
def tkA (B : Nat → Nat) (n i : Nat) : Nat × Nat × List Nat × Nat :=
  if ltr (B i) then (if wEnd B n i - i ≤ 8 then (kwF (lets B i (wEnd B n i - i)) 22, 0, lets B i (wEnd B n i - i), wEnd B n i) else (3, 0, [], wEnd B n i))
  else if dgt (B i) then (if dEnd B n i - i ≤ 4 then (2, vals B i (dEnd B n i - i), [], dEnd B n i) else (3, vals B i 4, [], dEnd B n i))
  else (sgnK (B i), 0, [], i + 1)
theorem tkA_w {B : Nat → Nat} {n i : Nat} (h : ltr (B i)) : tkA B n i = if wEnd B n i - i ≤ 8 then (kwF (lets B i (wEnd B n i - i)) 22, 0, lets B i (wEnd B n i - i), wEnd B n i) else (3, 0, [], wEnd B n i) := if_pos h
theorem tkA_d {B : Nat → Nat} {n i : Nat} (h : dgt (B i)) : tkA B n i = if dEnd B n i - i ≤ 4 then (2, vals B i (dEnd B n i - i), [], dEnd B n i) else (3, vals B i 4, [], dEnd B n i) := by
  have h0 : ¬ ltr (B i) := by omega
  unfold tkA; rw [if_neg h0, if_pos h]
theorem tkA_s {B : Nat → Nat} {n i : Nat} (h : ¬ ltr (B i)) (h2 : ¬ dgt (B i)) : tkA B n i = (sgnK (B i), 0, [], i + 1) := by
  unfold tkA; rw [if_neg h, if_neg h2]
def posK (B : Nat → Nat) (n : Nat) : Nat → Nat
  | 0 => skp B n 0
  | k + 1 => if posK B n k < n then skp B n (tkA B n (posK B n k)).2.2.2 else posK B n k
def lexK (B : Nat → Nat) (n : Nat) : TKS := (fun k => if posK B n k < n then (tkA B n (posK B n k)).1 else 0, fun k => posK B n k, fun k => if posK B n k < n then (tkA B n (posK B n k)).2.1 else 0, fun k => (tkA B n (posK B n k)).2.2.1)
theorem w_hp (n : Nat) (P : Nat → Bool) : ∀ i, decide (i < n ∧ P i = true) = true → i < n := fun _ h => (of_decide_eq_true h).1
theorem wEnd_spec (B : Nat → Nat) (n i : Nat) : i ≤ wEnd B n i ∧ (∀ j, i ≤ j → j < wEnd B n i → j < n ∧ ltr (B j)) ∧ ¬ (wEnd B n i < n ∧ ltr (B (wEnd B n i))) ∧ (i ≤ n → wEnd B n i ≤ n) := by
  have h := runE_spec (p := wEndP B n) (n := n) (fun _ h => (of_decide_eq_true h).1) (n + 1) i (by omega)
  exact ⟨h.1, fun j h1 h2 => of_decide_eq_true (h.2.1 j h1 h2), fun z => h.2.2.1 (decide_eq_true z), h.2.2.2⟩
theorem dEnd_spec (B : Nat → Nat) (n i : Nat) : i ≤ dEnd B n i ∧ (∀ j, i ≤ j → j < dEnd B n i → j < n ∧ dgt (B j)) ∧ ¬ (dEnd B n i < n ∧ dgt (B (dEnd B n i))) ∧ (i ≤ n → dEnd B n i ≤ n) := by
  have h := runE_spec (p := dEndP B n) (n := n) (fun _ h => (of_decide_eq_true h).1) (n + 1) i (by omega)
  exact ⟨h.1, fun j h1 h2 => of_decide_eq_true (h.2.1 j h1 h2), fun z => h.2.2.1 (decide_eq_true z), h.2.2.2⟩
theorem skp_spec (B : Nat → Nat) (n i : Nat) : i ≤ skp B n i ∧ (∀ j, i ≤ j → j < skp B n i → j < n ∧ blk (B j)) ∧ ¬ (skp B n i < n ∧ blk (B (skp B n i))) ∧ (i ≤ n → skp B n i ≤ n) := by
  have h := runE_spec (p := skpP B n) (n := n) (fun _ h => (of_decide_eq_true h).1) (n + 1) i (by omega)
  exact ⟨h.1, fun j h1 h2 => of_decide_eq_true (h.2.1 j h1 h2), fun z => h.2.2.1 (decide_eq_true z), h.2.2.2⟩
theorem wEnd_gt {B : Nat → Nat} {n i : Nat} (hi : i < n) (h : ltr (B i)) : i < wEnd B n i ∧ wEnd B n i ≤ n := by
  have h1 := wEnd_spec B n i
  refine ⟨?_, h1.2.2.2 (by omega)⟩
  rcases Nat.lt_or_ge i (wEnd B n i) with h9 | h9
  · exact h9
  · have e : wEnd B n i = i := by omega
    rw [e] at h1; exact absurd ⟨hi, h⟩ h1.2.2.1
theorem dEnd_gt {B : Nat → Nat} {n i : Nat} (hi : i < n) (h : dgt (B i)) : i < dEnd B n i ∧ dEnd B n i ≤ n := by
  have h1 := dEnd_spec B n i
  refine ⟨?_, h1.2.2.2 (by omega)⟩
  rcases Nat.lt_or_ge i (dEnd B n i) with h9 | h9
  · exact h9
  · have e : dEnd B n i = i := by omega
    rw [e] at h1; exact absurd ⟨hi, h⟩ h1.2.2.1
theorem tkA_end {B : Nat → Nat} {n i : Nat} (hi : i < n) : i < (tkA B n i).2.2.2 ∧ (tkA B n i).2.2.2 ≤ n := by
  by_cases h1 : ltr (B i)
  · rw [tkA_w h1]; split <;> exact wEnd_gt hi h1
  · by_cases h2 : dgt (B i)
    · rw [tkA_d h2]; split <;> exact dEnd_gt hi h2
    · rw [tkA_s h1 h2]; exact ⟨Nat.lt_succ_self _, hi⟩
theorem skp_le {B : Nat → Nat} {n i : Nat} (h : i ≤ n) : i ≤ skp B n i ∧ skp B n i ≤ n := ⟨(skp_spec B n i).1, (skp_spec B n i).2.2.2 h⟩
theorem pos_le (B : Nat → Nat) (n : Nat) : ∀ k, posK B n k ≤ n := by
  intro k
  induction k with
  | zero => exact (skp_le (Nat.zero_le n)).2
  | succ k ih =>
    unfold posK
    by_cases h : posK B n k < n
    · rw [if_pos h]; exact (skp_le (tkA_end h).2).2
    · rw [if_neg h]; exact ih
theorem pos_lt {B : Nat → Nat} {n k : Nat} (h : posK B n k < n) : posK B n k < posK B n (k + 1) := by
  show _ < (if posK B n k < n then _ else _)
  rw [if_pos h]
  have h1 := tkA_end (B := B) h
  have h2 := skp_le h1.2 (B := B)
  omega
theorem kwF_lt (l : List Nat) : ∀ q, q ≤ 22 → 1 ≤ kwF l q ∧ kwF l q < 42 := by
  intro q
  induction q with
  | zero => intro _; exact ⟨Nat.le_refl _, by show 1 < 42; decide⟩
  | succ q ih =>
    intro h
    unfold kwF
    split
    · omega
    · exact ih (by omega)
theorem sgnK_lt (x : Nat) : 3 ≤ sgnK x ∧ sgnK x < 16 := by
  unfold sgnK; repeat' split
  all_goals decide
theorem tkA_kind (B : Nat → Nat) (n i : Nat) : 1 ≤ (tkA B n i).1 ∧ (tkA B n i).1 < 42 := by
  by_cases h1 : ltr (B i)
  · rw [tkA_w h1]; split
    · exact kwF_lt _ 22 (Nat.le_refl _)
    · exact ⟨by show 1 ≤ 3; decide, by show 3 < 42; decide⟩
  · by_cases h2 : dgt (B i)
    · rw [tkA_d h2]; split
      · exact ⟨by show 1 ≤ 2; decide, by show 2 < 42; decide⟩
      · exact ⟨by show 1 ≤ 3; decide, by show 3 < 42; decide⟩
    · rw [tkA_s h1 h2]; have := sgnK_lt (B i); exact ⟨by show 1 ≤ sgnK (B i); omega, by show sgnK (B i) < 42; omega⟩
theorem vals_lt {B : Nat → Nat} {i : Nat} : ∀ q, (∀ k, k < q → dgt (B (i + k))) → vals B i q < 10 ^ q := by
  intro q
  induction q with
  | zero => intro _; exact Nat.one_pos
  | succ q ih =>
    intro h
    have h1 := ih (fun k hk => h k (by omega))
    have h2 := h q (Nat.lt_succ_self _)
    show 10 * vals B i q + B (i + q) - 48 < 10 ^ (q + 1)
    rw [Nat.pow_succ]
    omega
theorem tkA_val {B : Nat → Nat} {n i : Nat} (hi : i < n) : (tkA B n i).2.1 < 10000 := by
  by_cases h1 : ltr (B i)
  · rw [tkA_w h1]; split <;> exact (by show 0 < 10000; decide)
  · by_cases h2 : dgt (B i)
    · rw [tkA_d h2]; split
      · rename_i h3
        have h4 := dEnd_gt hi h2
        have h5 := vals_lt (B := B) (i := i) (dEnd B n i - i) (fun k hk => ((dEnd_spec B n i).2.1 (i + k) (by omega) (by omega)).2)
        have h6 : 10 ^ (dEnd B n i - i) ≤ 10 ^ 4 := Nat.pow_le_pow_right (by decide) h3
        show vals B i (dEnd B n i - i) < 10000
        have : 10 ^ 4 = 10000 := by decide
        omega
      · rename_i h3
        have h4 := dEnd_gt hi h2
        have h5 := vals_lt (B := B) (i := i) 4 (fun k hk => ((dEnd_spec B n i).2.1 (i + k) (by omega) (by omega)).2)
        exact h5
    · rw [tkA_s h1 h2]; exact (by show 0 < 10000; decide)
theorem lets_v {B : Nat → Nat} {i q : Nat} (h : ∀ k, k < q → ltr (B (i + k))) (hq : q ≤ 8) : vNm (lets B i q) := by
  refine ⟨by unfold lets; simp; exact hq, fun x hx => ?_⟩
  unfold lets at hx
  obtain ⟨k, hk, rfl⟩ := List.mem_map.mp hx
  have h1 := h k (List.mem_range.mp hk)
  omega
theorem tkA_nm {B : Nat → Nat} {n i : Nat} (hi : i < n) (hk : (tkA B n i).1 = 1) : vNm (tkA B n i).2.2.1 := by
  by_cases h1 : ltr (B i)
  · rw [tkA_w h1] at hk ⊢
    split
    · rename_i h3
      have h4 := wEnd_gt hi h1
      exact lets_v (fun k hk2 => ((wEnd_spec B n i).2.1 (i + k) (by omega) (by omega)).2) h3
    · exact ⟨by show 0 ≤ 8; decide, fun x hx => by cases hx⟩
  · by_cases h2 : dgt (B i)
    · rw [tkA_d h2]; split <;> exact ⟨by show 0 ≤ 8; decide, fun x hx => by cases hx⟩
    · rw [tkA_s h1 h2]; exact ⟨by show 0 ≤ 8; decide, fun x hx => by cases hx⟩
theorem skp_b {B : Nat → Nat} {n i : Nat} (hi : i < n) (h : blk (B i)) : skp B n i = skp B n (i + 1) := runE_mid (p := skpP B n) (n := n) (fun _ h => (of_decide_eq_true h).1) (decide_eq_true ⟨hi, h⟩)
theorem skp_n {B : Nat → Nat} {n i : Nat} (h : ¬ (i < n ∧ blk (B i))) : skp B n i = i := runE_no (fun z => h (of_decide_eq_true z))
