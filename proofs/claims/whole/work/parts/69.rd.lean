/-! the reference: what is told so far, and where it lies -/
theorem bd_inrE {α β : Type} {r : PE ⊕ α} {f : α → PE ⊕ β} {y : β} (h : bd r f = .inr y) : ∃ x, r = .inr x ∧ f x = .inr y := by
  cases r with
  | inl e => cases h
  | inr x => exact ⟨x, rfl, h⟩
theorem advS_inr {s s1 : PT} (h : advS s = .inr s1) : s.1 ≠ 400 ∧ s1 = (s.1 + 1, s.2) := by
  unfold advS advN at h
  by_cases h2 : s.1 = 400
  · rw [if_pos h2] at h; cases h
  · rw [if_neg h2] at h; cases h; exact ⟨h2, rfl⟩
theorem bndS_inr {K : TKS} {lo hi : Nat} {s s1 : PT} (h : bndS K lo hi s = .inr s1) : K.1 s.1 = 2 ∧ s.1 ≠ 400 ∧ s1.1 = s.1 + 1 := by
  obtain ⟨x, h1, h2⟩ := bd_inrE h
  obtain ⟨h3, h4, rfl⟩ := mstS_inr h1
  cases h2
  exact ⟨h3, h4, rfl⟩
theorem nameS_inr {K : TKS} {nl : NmL} {s s1 : PT} (h : nameS K nl s = .inr s1) : K.1 s.1 = 1 ∧ s.1 ≠ 400 ∧ s1.1 = s.1 + 1 := by
  obtain ⟨x, h1, h2⟩ := bd_inrE h
  obtain ⟨h3, h4, rfl⟩ := mstS_inr h1
  cases h2
  exact ⟨h3, h4, rfl⟩
theorem knwS_inr {K : TKS} {nl : NmL} {s s1 : PT} (h : knwS K nl s = .inr s1) : K.1 s.1 = 1 ∧ s.1 ≠ 400 ∧ s1 = (s.1 + 1, if (fndNm nl (K.2.2.2 s.1)).isSome = true then s.2 else noteS s.2 4 (K.2.1 s.1)) := by
  obtain ⟨x, h1, h2⟩ := bd_inrE h
  obtain ⟨h3, h4, rfl⟩ := mstS_inr h1
  cases h2
  exact ⟨h3, h4, rfl⟩
def strd (k : Nat) : Nat := if k ∈ [23, 24, 30, 31, 35, 36, 37] then 1 else if k ∈ [25, 26, 27, 28, 29] then 6 else if k ∈ [32, 33, 34] then 5 else if k ∈ [38, 39] then 3 else if k ∈ [41, 42, 43, 44, 45] then 130 else if k ∈ [47, 48] then 420 else 0
def FrR (sd : Nat) (v v' : Nat → Int32) (a a' : Nat → Nat → Int32) (b b' : Nat → Nat → Int64) : Prop := chg [11, 12, 13, 14, 15, 16, 20, 40, 46, 50] v v' ∧ (∀ k, k ≠ 22 → k ≠ 49 → ∀ j, ¬ (strd k * sd ≤ j ∧ j < strd k * sd + strd k) → a' k j = a k j) ∧ chg [21] b b'
theorem FrR.rf {sd : Nat} {v : Nat → Int32} {a : Nat → Nat → Int32} {b : Nat → Nat → Int64} : FrR sd v v a a b b := ⟨chg.rf, fun _ _ _ _ _ => rfl, chg.rf⟩
theorem FrR.tr {sd : Nat} {v v' v'' : Nat → Int32} {a a' a'' : Nat → Nat → Int32} {b b' b'' : Nat → Nat → Int64} (h : FrR sd v v' a a' b b') (h2 : FrR sd v' v'' a' a'' b' b'') : FrR sd v v'' a a'' b b'' := ⟨h.1.tr h2.1, fun k k1 k2 j hj => (h2.2.1 k k1 k2 j hj).trans (h.2.1 k k1 k2 j hj), h.2.2.tr h2.2.2⟩
theorem FrR.v {sd : Nat} {v v' : Nat → Int32} {a : Nat → Nat → Int32} {b : Nat → Nat → Int64} {L : List Nat} (h : chg L v v') (hL : ∀ k ∈ L, k ∈ [11, 12, 13, 14, 15, 16, 20, 40, 46, 50]) : FrR sd v v' a a b b := ⟨h.mono hL, fun _ _ _ _ _ => rfl, chg.rf⟩
theorem FrR.set {sd : Nat} {v : Nat → Int32} {a : Nat → Nat → Int32} {b : Nat → Nat → Int64} (k j : Nat) (x : Int32) (h1 : strd k * sd ≤ j) (h2 : j < strd k * sd + strd k) : FrR sd v v a (va_up a k (upd (a k) j x)) b b := by
  refine ⟨chg.rf, fun k' _ _ j' hj => ?_, chg.rf⟩
  unfold va_up
  by_cases h : k' = k
  · subst h
    rw [if_pos rfl]
    exact pk_un (fun e => hj (by rw [e]; exact ⟨h1, h2⟩))
  · rw [if_neg h]
theorem FrR.n22 {sd : Nat} {v : Nat → Int32} {a : Nat → Nat → Int32} {b : Nat → Nat → Int64} (f : Nat → Int32) : FrR sd v v a (va_up a 22 f) b b := ⟨chg.rf, fun k h _ j _ => by unfold va_up; rw [if_neg h], chg.rf⟩
theorem FrR.n49 {sd : Nat} {v : Nat → Int32} {a : Nat → Nat → Int32} {b : Nat → Nat → Int64} (f : Nat → Int32) : FrR sd v v a (va_up a 49 f) b b := ⟨chg.rf, fun k _ h j _ => by unfold va_up; rw [if_neg h], chg.rf⟩
theorem FrR.b21 {sd : Nat} {v : Nat → Int32} {a : Nat → Nat → Int32} {b : Nat → Nat → Int64} (f : Nat → Int64) : FrR sd v v a a b (va_up b 21 f) := ⟨chg.rf, fun _ _ _ _ _ => rfl, chg.up (by decide)⟩
theorem FrR.a0 {sd : Nat} {v v' : Nat → Int32} {a a' : Nat → Nat → Int32} {b b' : Nat → Nat → Int64} (h : FrR sd v v' a a' b b') {k : Nat} (h1 : k ≠ 22) (h2 : k ≠ 49) (h3 : strd k = 0) : a' k = a k := by
  funext j
  exact h.2.1 k h1 h2 j (by rw [h3]; omega)
theorem FrR.tok {sd : Nat} {K : TKS} {v v' : Nat → Int32} {a a' : Nat → Nat → Int32} {b b' : Nat → Nat → Int64} (h : FrR sd v v' a a' b b') (hT : Tok K a b) : Tok K a' b' := by
  unfold Tok at hT ⊢
  rw [h.a0 (k := 5) (by decide) (by decide) (by decide), h.a0 (k := 6) (by decide) (by decide) (by decide), h.a0 (k := 7) (by decide) (by decide) (by decide), h.2.2 8 (by decide)]
  exact hT
/-- a stretch of codes lies at q -/
def segR (a : Nat → Nat → Int32) (q : Nat) (c : Cde) : Prop := ∀ i x, c[i]? = some x → a 47 (q + i) = nI x.1 ∧ a 48 (q + i) = nI x.2
def brR (a : Nat → Nat → Int32) (lo hi f : Nat) (br : LBr) : Prop := match br.1 with
  | none => ∃ q, lo ≤ q ∧ q + br.2.length ≤ hi ∧ a 41 f = nI 0 ∧ a 44 f = nI q ∧ a 45 f = nI (q + br.2.length) ∧ segR a q br.2
  | some cc => ∃ q, lo ≤ q ∧ q + cc.1.length + cc.2.length + br.2.length ≤ hi ∧ a 41 f = nI 1 ∧ a 42 f = nI q ∧ a 43 f = nI (q + cc.1.length) ∧ a 44 f = nI (q + cc.1.length + cc.2.length) ∧ a 45 f = nI (q + cc.1.length + cc.2.length + br.2.length) ∧ segR a q cc.1 ∧ segR a (q + cc.1.length) cc.2 ∧ segR a (q + cc.1.length + cc.2.length) br.2
def LwR (a : Nat → Nat → Int32) (sd B Q : Nat) (lw : Option (List LBr)) (at' : Nat) : Prop := match lw with
  | none => a 38 at' = nI 0 ∧ a 39 at' = nI 0
  | some bs => bs ≠ [] ∧ ∃ f, 130 * sd ≤ f ∧ f + bs.length ≤ B ∧ a 38 at' = nI f ∧ a 39 at' = nI (f + bs.length) ∧ ∀ i br, bs[i]? = some br → brR a (420 * sd) Q (f + i) br
def PrR (pr : List (Option (Nat × Nat))) (dr : Nat → Int32) (sd : Nat) : Prop := ∃ m : Nat → Nat, ∀ x, x < 6 → dr (6 * sd + x) = nI (m x) ∧ m x < 64 ∧ ∀ y, y < 6 → (m x).testBit y = hasPr pr x y
def CdR (lw : Nat → Option (List LBr)) (sd t : Nat) (v : Nat → Int32) (a : Nat → Nat → Int32) : Prop := ∃ B Q, v 40 = nI B ∧ v 46 = nI Q ∧ 130 * sd ≤ B ∧ 4 * B ≤ t + 4 * (130 * sd) ∧ 420 * sd ≤ Q ∧ Q ≤ t + 420 * sd ∧ ∀ k, k < 3 → LwR a sd B Q (lw k) (3 * sd + k)
def RD (S : SD) (sd t : Nat) (v : Nat → Int32) (a : Nat → Nat → Int32) (b : Nat → Nat → Int64) : Prop :=
  (∀ k, k ∈ [23, 24, 30, 31, 35, 36, 37] → a k sd = nI (S.1 k)) ∧ (S.1 24 ≤ 6 ∧ S.1 31 ≤ 5 ∧ S.1 30 ≤ 6)
  ∧ (∀ i, i < S.1 24 → ∀ k, k ∈ [25, 26, 27, 28] → a k (6 * sd + i) = nI (S.2.1 k i))
  ∧ (∀ i, i < S.1 31 → ∀ k, k ∈ [32, 33, 34] → a k (5 * sd + i) = nI (S.2.1 k i))
  ∧ (NmR S.2.2.1 v a b ∧ S.2.2.1.length = S.1 24 + S.1 31 ∧ ∀ e, e ∈ S.2.2.1 → ∀ j, e.2 = some j → j < S.1 24)
  ∧ PrR S.2.2.2.1 (a 29) sd ∧ CdR S.2.2.2.2 sd t v a ∧ v 12 = nI 0
def RQ (K : TKS) (sd : Nat) (r : PE ⊕ (PT × SD)) (v : Nat → Int32) (a : Nat → Nat → Int32) (b : Nat → Nat → Int64) : Prop := match r with
  | .inl e => PVr K (.inl e) v
  | .inr q => PVr K (.inr q.1) v ∧ RD q.2 sd q.1.1 v a b
theorem brR_chg {a a' : Nat → Nat → Int32} {lo hi f : Nat} {br : LBr} (h : ∀ k ∈ [41, 42, 43, 44, 45, 47, 48], a' k = a k) (hb : brR a lo hi f br) : brR a' lo hi f br := by
  unfold brR segR at hb ⊢
  rw [h 41 (by decide), h 42 (by decide), h 43 (by decide), h 44 (by decide), h 45 (by decide), h 47 (by decide), h 48 (by decide)]
  exact hb
theorem LwR_chg {a a' : Nat → Nat → Int32} {sd B Q at' : Nat} {lw : Option (List LBr)} (h : ∀ k ∈ [38, 39, 41, 42, 43, 44, 45, 47, 48], a' k = a k) (hb : LwR a sd B Q lw at') : LwR a' sd B Q lw at' := by
  cases lw with
  | none => unfold LwR at hb ⊢; rw [h 38 (by decide), h 39 (by decide)]; exact hb
  | some bs =>
    obtain ⟨h0, f, h1, h2, h3, h4, h5⟩ := hb
    refine ⟨h0, f, h1, h2, ?_, ?_, fun i br hi => brR_chg (fun k hk => h k (by revert k; decide)) (h5 i br hi)⟩
    · rw [h 38 (by decide)]; exact h3
    · rw [h 39 (by decide)]; exact h4
theorem CdR_chg {lw : Nat → Option (List LBr)} {sd t t' : Nat} {v v' : Nat → Int32} {a a' : Nat → Nat → Int32} (ht : t ≤ t') (hv : v' 40 = v 40 ∧ v' 46 = v 46) (h : ∀ k ∈ [38, 39, 41, 42, 43, 44, 45, 47, 48], a' k = a k) (hb : CdR lw sd t v a) : CdR lw sd t' v' a' := by
  obtain ⟨B, Q, h1, h2, h3, h4, h5, h6, h7⟩ := hb
  exact ⟨B, Q, by rw [hv.1]; exact h1, by rw [hv.2]; exact h2, h3, by omega, h5, by omega, fun k hk => LwR_chg h (h7 k hk)⟩
