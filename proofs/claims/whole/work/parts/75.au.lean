/-! the automaton does what the grammar says -/
def subk (K : TKS) : Nat → Option (Nat → PE ⊕ (Nat × Cde))
  | 0 => none
  | k + 1 => some (exS K k)
theorem exS_sm (K : TKS) (k : Nat) : exS K k = smS K (subk K k) := by cases k <;> rfl
theorem opN_P {x z : Nat} (h : opP x = some z) : (x = 10 ∨ x = 15) ∧ opN x = z := by
  unfold opP at h
  by_cases h1 : x = 10
  · subst h1; cases h; exact ⟨Or.inl rfl, rfl⟩
  · rw [if_neg h1] at h
    by_cases h2 : x = 15
    · subst h2; cases h; exact ⟨Or.inr rfl, rfl⟩
    · rw [if_neg h2] at h; cases h
theorem opP_none {x : Nat} (h : opP x = none) : x ≠ 10 ∧ x ≠ 15 := by
  unfold opP at h
  by_cases h1 : x = 10
  · rw [if_pos h1] at h; cases h
  · rw [if_neg h1] at h
    by_cases h2 : x = 15
    · rw [if_pos h2] at h; cases h
    · exact ⟨h1, h2⟩
theorem opN_M {x z : Nat} (h : opM x = some z) : (x = 8 ∨ x = 9) ∧ opN x = z := by
  unfold opM at h
  by_cases h1 : x = 8
  · subst h1; cases h; exact ⟨Or.inl rfl, rfl⟩
  · rw [if_neg h1] at h
    by_cases h2 : x = 9
    · subst h2; cases h; exact ⟨Or.inr rfl, rfl⟩
    · rw [if_neg h2] at h; cases h
theorem opM_none {x : Nat} (h : opM x = none) : x ≠ 8 ∧ x ≠ 9 := by
  unfold opM at h
  by_cases h1 : x = 8
  · rw [if_pos h1] at h; cases h
  · rw [if_neg h1] at h
    by_cases h2 : x = 9
    · rw [if_pos h2] at h; cases h
    · exact ⟨h1, h2⟩
theorem out_lo {st : Bool} {W : List Nat} {c : Cde} (h : loW W) : outW st W c = (W, c) := by
  cases W with
  | nil => rfl
  | cons x W =>
    rcases h with h | h
    · cases h
    · cases h; unfold outW; rw [if_pos (Or.inl rfl)]
theorem out_wk {W : List Nat} {c : Cde} (h : loW W ∨ wkW W) : outW true W c = (W, c) := by
  rcases h with h | h
  · exact out_lo h
  · cases W with
    | nil => rfl
    | cons x W => unfold outW; rw [if_pos (Or.inr ⟨rfl, by rcases h with h | h <;> cases h; exact Or.inl rfl; exact Or.inr rfl⟩)]
theorem out_tf : ∀ (X : List Nat) (c : Cde), outW false X c = outW false (outW true X c).1 (outW true X c).2 := by
  intro X
  induction X with
  | nil => intro c; rfl
  | cons x X ih =>
    intro c
    by_cases h : x = 6 ∨ (true = true ∧ (x = 8 ∨ x = 9))
    · rw [show outW true (x :: X) c = (x :: X, c) from if_pos h]
    · rw [show outW true (x :: X) c = outW true X (c ++ [(opN x, 0)]) from if_neg h, ← ih]
      exact if_neg (fun z => z.elim (fun e => h (Or.inl e)) (fun e => by cases e.1))
theorem lpS_pre (K : TKS) (P : Nat → PE ⊕ (Nat × Cde)) (op : Nat → Option Nat) (c0 : Cde) : ∀ f t C, lpS K P op f t (c0 ++ C) = bd (lpS K P op f t C) (fun x => .inr (x.1, c0 ++ x.2)) := by
  intro f
  induction f with
  | zero => intro t C; rfl
  | succ f ih =>
    intro t C
    unfold lpS
    cases op (K.1 t) with
    | none => rfl
    | some z =>
      show bd (advN t) _ = bd (bd (advN t) _) _
      cases advN t with
      | inl e => rfl
      | inr t1 =>
        show bd (P t1) _ = bd (bd (P t1) _) _
        cases P t1 with
        | inl e => rfl
        | inr x =>
          show lpS K P op f x.1 _ = bd (lpS K P op f x.1 _) _
          rw [← ih]
          simp only [List.append_assoc]
theorem advN_inr {t t1 : Nat} (h : advN t = .inr t1) (ht : t ≤ 400) : t1 = t + 1 ∧ t + 1 ≤ 400 := by
  unfold advN at h
  by_cases h4 : t = 400
  · rw [if_pos h4] at h; cases h
  · rw [if_neg h4] at h; cases h; exact ⟨rfl, by omega⟩
theorem au_T (K : TKS) (n t : Nat) (W : List Nat) (op : Nat) (c : Cde) : au K (n + 1) true t W op c = if K.1 t = 7 ∧ op ≠ 0 then bd (advN t) (fun t1 => au K n true t1 (outW false W c).1.tail (op - 1) (outW false W c).2)
    else if K.1 t = 8 ∨ K.1 t = 9 ∨ K.1 t = 10 ∨ K.1 t = 15 then bd (advN t) (fun t1 => au K n false t1 (K.1 t :: (outW (decide (K.1 t = 10 ∨ K.1 t = 15)) W c).1) op (outW (decide (K.1 t = 10 ∨ K.1 t = 15)) W c).2)
    else if op = 0 then .inr (t, (outW false W c).2) else .inl (1, t) := rfl
theorem au_F (K : TKS) (n t : Nat) (W : List Nat) (op : Nat) (c : Cde) : au K (n + 1) false t W op c = if K.1 t = 6 then (if op = 6 then .inl (2, t) else bd (advN t) (fun t1 => au K n false t1 (6 :: W) (op + 1) c))
    else match unK K t with
      | some z => bd (advN t) (fun t1 => au K n true t1 W op (c ++ [z]))
      | none => .inl (1, t) := rfl
def mRes {α : Type} (r : PE ⊕ α) (P : PE → Prop) (Q : α → Prop) : Prop := match r with
  | .inl e => P e
  | .inr x => Q x
theorem mRes_bd {α β : Type} {r : PE ⊕ α} {f : α → PE ⊕ β} {P : PE → Prop} {Q : β → Prop} (h1 : ∀ e, r = .inl e → P e) (h2 : ∀ x, r = .inr x → mRes (f x) P Q) : mRes (bd r f) P Q := by
  cases r with
  | inl e => exact h1 e rfl
  | inr x => exact h2 x rfl
theorem mRes_mono {α : Type} {r : PE ⊕ α} {P P' : PE → Prop} {Q Q' : α → Prop} (h : mRes r P Q) (h1 : ∀ e, P e → P' e) (h2 : ∀ x, Q x → Q' x) : mRes r P' Q' := by
  cases r with
  | inl e => exact h1 e h
  | inr x => exact h2 x h
theorem unS_unK (K : TKS) (sub : Option (Nat → PE ⊕ (Nat × Cde))) (t : Nat) (h : K.1 t ≠ 6) : unS K sub t = match unK K t with
    | some z => bd (advN t) (fun t1 => .inr (t1, [z]))
    | none => .inl (1, t) := by
  unfold unS unK
  rw [if_neg h]
  by_cases h2 : K.1 t = 2
  · rw [if_pos h2, if_pos h2]
  · rw [if_neg h2, if_neg h2]
    by_cases h3 : 33 ≤ K.1 t ∧ K.1 t ≤ 41
    · rw [if_pos h3, if_pos h3]
    · rw [if_neg h3, if_neg h3]
def simU (K : TKS) (k : Nat) : Prop := ∀ (n t : Nat) (W : List Nat) (c : Cde), 401 ≤ n + t → t ≤ 400 → mRes (unS K (subk K k) t) (fun e => au K n false t W (6 - k) c = .inl e)
  (fun x => t < x.1 ∧ x.1 ≤ 400 ∧ ∃ n', 401 ≤ n' + x.1 ∧ au K n false t W (6 - k) c = au K n' true x.1 W (6 - k) (c ++ x.2))
def simP (K : TKS) (k : Nat) : Prop := ∀ (f n t : Nat) (X : List Nat) (c' : Cde) (W : List Nat) (C : Cde), 401 ≤ n + t → t ≤ 400 → 401 ≤ f + t → loW W ∨ wkW W → outW true X c' = (W, C) → mRes (lpS K (unS K (subk K k)) opP f t C) (fun e => au K n true t X (6 - k) c' = .inl e)
  (fun x => t ≤ x.1 ∧ x.1 ≤ 400 ∧ (K.1 x.1 ≠ 10 ∧ K.1 x.1 ≠ 15) ∧ ∃ n' X2 c2, 401 ≤ n' + x.1 ∧ outW true X2 c2 = (W, x.2) ∧ au K n true t X (6 - k) c' = au K n' true x.1 X2 (6 - k) c2)
def simR (K : TKS) (k : Nat) : Prop := ∀ (n t : Nat) (W : List Nat) (c : Cde), 401 ≤ n + t → t ≤ 400 → loW W ∨ wkW W → mRes (prS K (subk K k) t) (fun e => au K n false t W (6 - k) c = .inl e)
  (fun x => t < x.1 ∧ x.1 ≤ 400 ∧ (K.1 x.1 ≠ 10 ∧ K.1 x.1 ≠ 15) ∧ ∃ n' X2 c2, 401 ≤ n' + x.1 ∧ outW true X2 c2 = (W, c ++ x.2) ∧ au K n false t W (6 - k) c = au K n' true x.1 X2 (6 - k) c2)
def simM (K : TKS) (k : Nat) : Prop := ∀ (f n t : Nat) (X : List Nat) (c' : Cde) (W : List Nat) (C : Cde), 401 ≤ n + t → t ≤ 400 → 401 ≤ f + t → loW W → (K.1 t ≠ 10 ∧ K.1 t ≠ 15) → outW false X c' = (W, C) → mRes (lpS K (prS K (subk K k)) opM f t C) (fun e => au K n true t X (6 - k) c' = .inl e)
  (fun x => t ≤ x.1 ∧ x.1 ≤ 400 ∧ (K.1 x.1 ≠ 10 ∧ K.1 x.1 ≠ 15) ∧ (K.1 x.1 ≠ 8 ∧ K.1 x.1 ≠ 9) ∧ ∃ n' X2 c2, 401 ≤ n' + x.1 ∧ outW false X2 c2 = (W, x.2) ∧ au K n true t X (6 - k) c' = au K n' true x.1 X2 (6 - k) c2)
def simS (K : TKS) (k : Nat) : Prop := ∀ (n t : Nat) (W : List Nat) (c : Cde), 401 ≤ n + t → t ≤ 400 → loW W → mRes (smS K (subk K k) t) (fun e => au K n false t W (6 - k) c = .inl e)
  (fun x => t < x.1 ∧ x.1 ≤ 400 ∧ (K.1 x.1 ≠ 10 ∧ K.1 x.1 ≠ 15) ∧ (K.1 x.1 ≠ 8 ∧ K.1 x.1 ≠ 9) ∧ ∃ n' X2 c2, 401 ≤ n' + x.1 ∧ outW false X2 c2 = (W, c ++ x.2) ∧ au K n false t W (6 - k) c = au K n' true x.1 X2 (6 - k) c2)
theorem simP_of {K : TKS} {k : Nat} (hU : simU K k) : simP K k := by
  intro f
  induction f with
  | zero => intro n t X c' W C hn ht hf; omega
  | succ f ih =>
    intro n t X c' W C hn ht hf hW hX
    unfold lpS
    cases hz : opP (K.1 t) with
    | none => exact ⟨Nat.le_refl _, ht, opP_none hz, n, X, c', hn, hX, rfl⟩
    | some z =>
      obtain ⟨hk, hop⟩ := opN_P hz
      obtain ⟨m, rfl⟩ : ∃ m, n = m + 1 := ⟨n - 1, by omega⟩
      have e1 : au K (m + 1) true t X (6 - k) c' = bd (advN t) (fun t1 => au K m false t1 (K.1 t :: W) (6 - k) C) := by
        rw [au_T, if_neg (by omega), if_pos (by omega), decide_eq_true hk, hX]
      rw [e1]
      refine mRes_bd (fun e he => by rw [he]; rfl) (fun t1 ha => ?_)
      obtain ⟨rfl, ht1⟩ := advN_inr ha ht
      rw [ha]
      have h1 := hU m (t + 1) (K.1 t :: W) C (by omega) ht1
      refine mRes_bd (fun e he => by rw [he] at h1; exact h1) (fun x hx => ?_)
      rw [hx] at h1
      obtain ⟨g1, g2, n', g3, g4⟩ := h1
      have h2 := ih n' x.1 (K.1 t :: W) (C ++ x.2) W (C ++ x.2 ++ [(z, 0)]) g3 g2 (by omega) hW (by
        unfold outW
        rw [if_neg (by rintro (h | h) <;> omega), hop]
        exact out_wk hW)
      exact mRes_mono h2 (fun e he => g4.trans he) (fun y hy => ⟨by have := hy.1; omega, hy.2.1, hy.2.2.1, by obtain ⟨n2, X2, c2, q1, q2, q3⟩ := hy.2.2.2; exact ⟨n2, X2, c2, q1, q2, g4.trans q3⟩⟩)
theorem simR_of {K : TKS} {k : Nat} (hU : simU K k) : simR K k := by
  intro n t W c hn ht hW
  have h1 := hU n t W c hn ht
  unfold prS
  refine mRes_bd (fun e he => by rw [he] at h1; exact h1) (fun x hx => ?_)
  rw [hx] at h1
  obtain ⟨g1, g2, n', g3, g4⟩ := h1
  have h2 := simP_of hU 400 n' x.1 W (c ++ x.2) W (c ++ x.2) g3 g2 (by omega) hW (out_wk hW)
  rw [lpS_pre] at h2
  cases hl : lpS K (unS K (subk K k)) opP 400 x.1 x.2 with
  | inl e => rw [hl] at h2; exact g4.trans h2
  | inr y =>
    rw [hl] at h2
    obtain ⟨q0, q1, q2, n2, X2, c2, q3, q4, q5⟩ := h2
    exact ⟨by have h3 : x.1 ≤ y.1 := q0; omega, q1, q2, n2, X2, c2, q3, q4, g4.trans q5⟩
theorem simM_of {K : TKS} {k : Nat} (hR : simR K k) : simM K k := by
  intro f
  induction f with
  | zero => intro n t X c' W C hn ht hf; omega
  | succ f ih =>
    intro n t X c' W C hn ht hf hW hk0 hX
    unfold lpS
    cases hz : opM (K.1 t) with
    | none => exact ⟨Nat.le_refl _, ht, hk0, opM_none hz, n, X, c', hn, hX, rfl⟩
    | some z =>
      obtain ⟨hk, hop⟩ := opN_M hz
      obtain ⟨m, rfl⟩ : ∃ m, n = m + 1 := ⟨n - 1, by omega⟩
      have e1 : au K (m + 1) true t X (6 - k) c' = bd (advN t) (fun t1 => au K m false t1 (K.1 t :: W) (6 - k) C) := by
        rw [au_T, if_neg (by omega), if_pos (by omega), decide_eq_false (by omega), hX]
      rw [e1]
      refine mRes_bd (fun e he => by rw [he]; rfl) (fun t1 ha => ?_)
      obtain ⟨rfl, ht1⟩ := advN_inr ha ht
      rw [ha]
      have hwk : wkW (K.1 t :: W) := by rcases hk with hk | hk <;> rw [hk]; exact Or.inl rfl; exact Or.inr rfl
      have h1 := hR m (t + 1) (K.1 t :: W) C (by omega) ht1 (Or.inr hwk)
      refine mRes_bd (fun e he => by rw [he] at h1; exact h1) (fun x hx => ?_)
      rw [hx] at h1
      obtain ⟨g1, g2, g0, n', X2, c2, g3, g5, g4⟩ := h1
      have h2 := ih n' x.1 X2 c2 W (C ++ x.2 ++ [(z, 0)]) g3 g2 (by omega) hW g0 (by
        rw [out_tf, g5]
        show outW false (K.1 t :: W) (C ++ x.2) = _
        unfold outW
        rw [if_neg (by rintro (h | h); omega; exact absurd h.1 (by decide)), hop]
        exact out_lo hW)
      exact mRes_mono h2 (fun e he => g4.trans he) (fun y hy => ⟨by have := hy.1; omega, hy.2.1, hy.2.2.1, hy.2.2.2.1, by obtain ⟨n2, X2, c2, q1, q2, q3⟩ := hy.2.2.2.2; exact ⟨n2, X2, c2, q1, q2, g4.trans q3⟩⟩)
theorem simS_of {K : TKS} {k : Nat} (hU : simU K k) : simS K k := by
  intro n t W c hn ht hW
  have h1 := simR_of hU n t W c hn ht (Or.inl hW)
  unfold smS
  refine mRes_bd (fun e he => by rw [he] at h1; exact h1) (fun x hx => ?_)
  rw [hx] at h1
  obtain ⟨g1, g2, g0, n', X2, c2, g3, g5, g4⟩ := h1
  have h2 := simM_of (simR_of hU) 400 n' x.1 X2 c2 W (c ++ x.2) g3 g2 (by omega) hW g0 (by rw [out_tf, g5]; exact out_lo hW)
  rw [lpS_pre] at h2
  cases hl : lpS K (prS K (subk K k)) opM 400 x.1 x.2 with
  | inl e => rw [hl] at h2; exact g4.trans h2
  | inr y =>
    rw [hl] at h2
    obtain ⟨q0, q1, q2, q6, n2, X3, c3, q3, q4, q5⟩ := h2
    exact ⟨by have h3 : x.1 ≤ y.1 := q0; omega, q1, q2, q6, n2, X3, c3, q3, q4, g4.trans q5⟩
theorem simU_un {K : TKS} {k n t : Nat} {W : List Nat} {c : Cde} (hn : 401 ≤ n + 1 + t) (ht : t ≤ 400) (h6 : K.1 t ≠ 6) : mRes (unS K (subk K k) t) (fun e => au K (n + 1) false t W (6 - k) c = .inl e)
  (fun x => t < x.1 ∧ x.1 ≤ 400 ∧ ∃ n', 401 ≤ n' + x.1 ∧ au K (n + 1) false t W (6 - k) c = au K n' true x.1 W (6 - k) (c ++ x.2)) := by
  rw [unS_unK K _ t h6, au_F, if_neg h6]
  cases unK K t with
  | none => exact rfl
  | some z =>
    show mRes (bd (advN t) _) (fun e => bd (advN t) _ = _) (fun x => _ ∧ _ ∧ ∃ n', _ ∧ bd (advN t) _ = _)
    refine mRes_bd (fun e he => by rw [he]; rfl) (fun t1 ha => ?_)
    obtain ⟨rfl, ht1⟩ := advN_inr ha ht
    exact ⟨Nat.lt_succ_self _, ht1, n, by show 401 ≤ n + (t + 1); omega, by rw [ha]; rfl⟩
theorem simU_all (K : TKS) : ∀ k, k ≤ 6 → simU K k := by
  intro k
  induction k with
  | zero =>
    intro _ n t W c hn ht
    obtain ⟨m, rfl⟩ : ∃ m, n = m + 1 := ⟨n - 1, by omega⟩
    by_cases h6 : K.1 t = 6
    · rw [au_F, if_pos h6, if_pos rfl]; unfold unS; rw [if_pos h6]; exact rfl
    · exact simU_un hn ht h6
  | succ k ih =>
    intro hk n t W c hn ht
    have hS := simS_of (ih (by omega))
    obtain ⟨m, rfl⟩ : ∃ m, n = m + 1 := ⟨n - 1, by omega⟩
    by_cases h6 : K.1 t = 6
    · rw [au_F, if_pos h6, if_neg (by omega)]
      unfold unS
      rw [if_pos h6]
      show mRes (bd (advN t) _) _ _
      refine mRes_bd (fun e he => by rw [he]; rfl) (fun t1 ha => ?_)
      obtain ⟨rfl, ht1⟩ := advN_inr ha ht
      rw [ha]
      have h1 := hS m (t + 1) (6 :: W) c (by omega) ht1 (Or.inr rfl)
      rw [← exS_sm, show 6 - k = 6 - (k + 1) + 1 by omega] at h1
      refine mRes_bd (fun e he => by rw [he] at h1; exact h1) (fun x hx => ?_)
      rw [hx] at h1
      obtain ⟨g1, g2, g0, g9, n', X2, c2, g3, g5, g4⟩ := h1
      obtain ⟨m', rfl⟩ : ∃ m', n' = m' + 1 := ⟨n' - 1, by omega⟩
      show mRes _ (fun e => au K m false (t + 1) (6 :: W) (6 - (k + 1) + 1) c = .inl e) (fun x => _ ∧ _ ∧ ∃ n', _ ∧ au K m false (t + 1) (6 :: W) (6 - (k + 1) + 1) c = _)
      rw [g4, au_T]
      unfold mstN
      by_cases h7 : K.1 x.1 = 7
      · rw [if_pos h7, if_pos ⟨h7, by omega⟩, g5]
        refine mRes_bd (fun e he => by rw [he]; rfl) (fun t2 hb => ?_)
        obtain ⟨rfl, ht2⟩ := advN_inr hb g2
        exact ⟨by show t < x.1 + 1; omega, ht2, m', by show 401 ≤ m' + (x.1 + 1); omega, by rw [hb]; rfl⟩
      · rw [if_neg h7, if_neg (fun z => h7 z.1), if_neg (by omega), if_neg (by omega)]; exact rfl
    · exact simU_un hn ht h6
theorem au_ex (K : TKS) (t : Nat) (ht : t ≤ 400) : au K 401 false t [] 0 [] = exS K 6 t := by
  have h1 := simS_of (simU_all K 6 (Nat.le_refl _)) 401 t [] [] (by omega) ht (Or.inl rfl)
  rw [← exS_sm] at h1
  cases hu : exS K 6 t with
  | inl e => rw [hu] at h1; exact h1
  | inr x =>
    rw [hu] at h1
    obtain ⟨g1, g2, g0, g9, n', X2, c2, g3, g5, g4⟩ := h1
    obtain ⟨m', rfl⟩ : ∃ m', n' = m' + 1 := ⟨n' - 1, by omega⟩
    refine g4.trans ?_
    rw [au_T, if_neg (fun z => z.2 rfl), if_neg (by omega), if_pos rfl, g5]
    rfl
theorem exS_lt {K : TKS} {k t : Nat} {x : Nat × Cde} (hk : k ≤ 6) (ht : t ≤ 400) (h : exS K k t = .inr x) : t < x.1 ∧ x.1 ≤ 400 := by
  have h1 := simS_of (simU_all K k hk) 401 t [] [] (by omega) ht (Or.inl rfl)
  rw [← exS_sm, h] at h1
  exact ⟨h1.1, h1.2.1⟩
