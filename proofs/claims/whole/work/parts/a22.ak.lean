/-! what is asked: what a span bears, by who is thought awake -/
theorem cB_sub {P Q : Nat → Bool} : ∀ n, (∀ k, k < n → P k = true → Q k = true) → cB Q n ≤ cB P n → ∀ k, k < n → P k = Q k := by
  have hle : ∀ n, (∀ k, k < n → P k = true → Q k = true) → cB P n ≤ cB Q n := by
    intro n
    induction n with
    | zero => intro _; exact Nat.le_refl _
    | succ n ih =>
      intro h
      have := ih (fun k hk => h k (by omega))
      rw [cB_s, cB_s]
      by_cases z : P n = true
      · rw [if_pos z, if_pos (h n (Nat.lt_succ_self _) z)]; omega
      · rw [if_neg z]; split <;> omega
  intro n
  induction n with
  | zero => intro _ _ k hk; omega
  | succ n ih =>
    intro h hc k hk
    have h1 := hle n (fun k hk => h k (by omega))
    rw [cB_s, cB_s] at hc
    by_cases z : P n = true
    · have zq := h n (Nat.lt_succ_self _) z
      rw [if_pos z, if_pos zq] at hc
      rcases (show k < n ∨ k = n by omega) with w | w
      · exact ih (fun k hk => h k (by omega)) (by omega) k w
      · rw [w, z, zq]
    · rw [if_neg z] at hc
      by_cases zq : Q n = true
      · rw [if_pos zq] at hc; omega
      · rw [if_neg zq] at hc
        rcases (show k < n ∨ k = n by omega) with w | w
        · exact ih (fun k hk => h k (by omega)) (by omega) k w
        · rw [w, show P n = false by simpa using z, show Q n = false by simpa using zq]
theorem bV_n2 {S : SD} {lv : Nat} {a : Nat → Nat → Int32} (hs : shpS S) (hr : rngS S) (R : Nat → Int32) (p : Int32) (m : Nat) : ∃ k, k ≤ 594 + 99 * cB m.testBit (S.1 24) ∧ bV S lv a R p m = nI k := by
  unfold bV
  by_cases h0 : m = 0
  · rw [if_pos h0]; exact ⟨0, by omega, rfl⟩
  · rw [if_neg h0]
    have hg : ∀ n, n ≤ 6 → ∃ k, k ≤ 594 + 99 * cB m.testBit n ∧ itN (bvF S lv a R p m) (nI (S.1 36) * nI (prC S.2.2.2.1 m (S.1 30))) n = nI k := by
      intro n
      induction n with
      | zero =>
        intro _
        refine ⟨S.1 36 * prC S.2.2.2.1 m (S.1 30), ?_, nI_mul _ _⟩
        have h1 := prC_le S.2.2.2.1 m (S.1 30)
        have h2 : prC S.2.2.2.1 m (S.1 30) ≤ 6 := Nat.le_trans h1 hs.2.2.1
        have h3 : S.1 36 ≤ 99 := hr.2.2.1
        calc S.1 36 * prC S.2.2.2.1 m (S.1 30) ≤ 99 * 6 := Nat.mul_le_mul h3 h2
          _ ≤ _ := by omega
      | succ n ih =>
        intro hn
        obtain ⟨k, hk, he⟩ := ih (by omega)
        show ∃ k, k ≤ 594 + 99 * cB m.testBit (n + 1) ∧ bvF S lv a R p m n (itN _ _ n) = nI k
        rw [he, cB_s]
        unfold bvF
        by_cases h1 : m.testBit n = true
        · rw [if_pos h1, if_pos h1]
          obtain ⟨j, hj, hj2⟩ := heldF_n (lawO (seF S lv a R p (nI (pcN m 6 - 1)) n) (S.2.2.2.2 0) (plV R 0 n)) (hi := 99) (by decide)
          refine ⟨k + j, by omega, ?_⟩
          show nI k + heldF _ _ _ = _
          rw [hj2, nI_add]
        · rw [if_neg h1, if_neg h1]; exact ⟨k, by omega, rfl⟩
    exact hg (S.1 24) hs.1
/-- who sleeps on q, if the set s is awake -/
def mSt (S : SD) (R : Nat → Int32) (s q : Nat) : Nat := mOn S (saF R (S.1 24) (nI s ^^^ (-1))) (nI q)
def lyB (R : Nat → Int32) (q : Nat) : Nat → Bool := fun k => decide (R (12 + k) = nI q)
theorem aw_slp {S : SD} {R : Nat → Int32} (hsl : S.1 24 ≤ 6) {s k : Nat} (hs : s < 64) (hk : k < S.1 24) : slpB (saF R (S.1 24) (nI s ^^^ (-1))) (nI (S.1 35)) k = (!s.testBit k && decide (R 28 < nI (S.1 35))) := by
  unfold slpB slp
  rw [saF_in hk, saF_out (by omega)]
  have h1 : (((nI s ^^^ (-1)) >>> (nI k &&& 31)) &&& nI 1 = nI 1) ↔ s.testBit k = false := (show ∀ m : Fin 64, ∀ k : Fin 6, (((nI m.val ^^^ (-1)) >>> (nI k.val &&& 31)) &&& nI 1 = nI 1) ↔ m.val.testBit k.val = false by decide +kernel) ⟨s, hs⟩ ⟨k, by omega⟩
  by_cases h2 : s.testBit k = false
  · rw [if_pos (h1.mpr h2), h2]
    by_cases h3 : R 28 < nI (S.1 35)
    · simp [h3]; rfl
    · simp [h3]
  · rw [if_neg (fun z => h2 (h1.mp z)), show s.testBit k = true by simpa using h2]
    exact decide_eq_false (fun z => by have := z.1; revert this; decide)
theorem mSt_bit {S : SD} {R : Nat → Int32} (hsl : S.1 24 ≤ 6) {s q k : Nat} (hs : s < 64) : (mSt S R s q).testBit k = (decide (k < S.1 24) && (lyB R q k && (!s.testBit k && decide (R 28 < nI (S.1 35))))) := by
  unfold mSt
  rw [mOn_bit]
  by_cases hk : k < S.1 24
  · rw [decide_eq_true hk, Bool.true_and, Bool.true_and]
    unfold onB lyB
    rw [aw_slp hsl hs hk, saF_out (by omega)]
  · rw [decide_eq_false hk, Bool.false_and, Bool.false_and]
section ASK
variable {S : SD} {lv : Nat} {a : Nat → Nat → Int32}
theorem akB_bV (hT : TxR S lv (aQ a)) (hs : shpS S) (hr : rngS S) (hlv : lv < 2) (s q : Nat) : akB a lv (S.1 24) (S.1 31) s q = bV S lv (aQ a) (a 54) (nI q) (mSt S (a 54) s q) := by
  have h6 := hs.1
  have h5 := hs.2.1
  unfold akB
  rw [bears_bV hT hs hr hlv]
  exact bV_row (fun x hx => saF_out (by omega)) (saF_out (by omega)) (fun c hc => saF_out (by omega))
def kvN (a : Nat → Nat → Int32) (lv sl cr s q : Nat) : Nat := (akB a lv sl cr s q).toNatClampNeg
theorem kv_eq (hT : TxR S lv (aQ a)) (hs : shpS S) (hr : rngS S) (hlv : lv < 2) (s q : Nat) : akB a lv (S.1 24) (S.1 31) s q = nI (kvN a lv (S.1 24) (S.1 31) s q) ∧ kvN a lv (S.1 24) (S.1 31) s q ≤ 594 + 99 * cB (mSt S (a 54) s q).testBit (S.1 24) := by
  obtain ⟨k, hk, he⟩ := bV_n2 (lv := lv) (a := aQ a) hs hr (a 54) (nI q) (mSt S (a 54) s q)
  have hle := cB_le (mSt S (a 54) s q).testBit (S.1 24)
  have h6 := hs.1
  unfold kvN
  rw [akB_bV hT hs hr hlv, he, nI_clamp (by omega)]
  exact ⟨rfl, hk⟩
theorem kv_big (hs : shpS S) (s q : Nat) : 594 + 99 * cB (mSt S (a 54) s q).testBit (S.1 24) ≤ 1188 := by
  have := cB_le (mSt S (a 54) s q).testBit (S.1 24)
  have := hs.1
  omega
theorem hb_min {k : Nat} (hk : k ≤ 1188) : hb9 (nI k) = min k 999 := by
  unfold hb9 heldF
  rw [if_neg (show ¬ nI k < nI 0 from nI_nn (by omega))]
  by_cases h : 999 < k
  · rw [if_pos ((nI_ltI (by omega) (by omega)).mpr h), nI_clamp (by omega)]; omega
  · rw [if_neg (fun z => h ((nI_ltI (by omega) (by omega)).mp z)), nI_clamp (by omega)]; omega
theorem kv_same (hT : TxR S lv (aQ a)) (hs : shpS S) (hr : rngS S) (hlv : lv < 2) {q s t : Nat} (hs6 : s < 64) (ht6 : t < 64) (hq : ¬ (S.1 24 = 6 ∧ ∀ k, k < 6 → a 54 (12 + k) = nI q)) (h1 : 999 ≤ kvN a lv (S.1 24) (S.1 31) s q) (h2 : 999 ≤ kvN a lv (S.1 24) (S.1 31) t q) : kvN a lv (S.1 24) (S.1 31) s q = kvN a lv (S.1 24) (S.1 31) t q := by
  have h6 := hs.1
  have hly : cB (lyB (a 54) q) (S.1 24) ≤ 5 := by
    by_cases h24 : S.1 24 = 6
    · by_cases hall : ∀ k, k < 6 → a 54 (12 + k) = nI q
      · exact absurd ⟨h24, hall⟩ hq
      · have : ∃ k, k < 6 ∧ ¬ a 54 (12 + k) = nI q := by
          by_cases hex : ∃ k, k < 6 ∧ ¬ a 54 (12 + k) = nI q
          · exact hex
          · exact absurd (fun k hk => Decidable.not_not.mp (fun z => hex ⟨k, hk, z⟩)) hall
        obtain ⟨k, hk, hne⟩ := this
        have := cB_lt (P := lyB (a 54) q) (k := k) (decide_eq_false hne) (S.1 24) (by omega)
        omega
    · have := cB_le (lyB (a 54) q) (S.1 24)
      omega
  have full : ∀ r, r < 64 → 999 ≤ kvN a lv (S.1 24) (S.1 31) r q → ∀ k, k < S.1 24 → (mSt S (a 54) r q).testBit k = lyB (a 54) q k := by
    intro r hr6 hr9
    have hb := (kv_eq hT hs hr hlv r q).2
    refine cB_sub _ (fun k hk z => ?_) (by omega)
    rw [mSt_bit h6 hr6, decide_eq_true hk, Bool.true_and] at z
    simp at z
    exact z.1
  have e : mSt S (a 54) s q = mSt S (a 54) t q := by
    apply Nat.eq_of_testBit_eq
    intro k
    by_cases hk : k < S.1 24
    · rw [full s hs6 h1 k hk, full t ht6 h2 k hk]
    · rw [mSt_bit h6 hs6, mSt_bit h6 ht6, decide_eq_false hk, Bool.false_and, Bool.false_and]
  unfold kvN
  rw [akB_bV hT hs hr hlv, akB_bV hT hs hr hlv, e]
/-- all lie on p: another span bears nothing -/
theorem kv_none (hT : TxR S lv (aQ a)) (hs : shpS S) (hr : rngS S) (hlv : lv < 2) {p q s : Nat} (hs6 : s < 64) (h24 : S.1 24 = 6) (hall : ∀ k, k < 6 → a 54 (12 + k) = nI p) (hp : p < 5) (hq : q < 5) (hne : q ≠ p) : akB a lv (S.1 24) (S.1 31) s q = nI 0 := by
  have e : mSt S (a 54) s q = 0 := by
    apply Nat.eq_of_testBit_eq
    intro k
    rw [mSt_bit hs.1 hs6, Nat.zero_testBit]
    by_cases hk : k < S.1 24
    · rw [show lyB (a 54) q k = false from decide_eq_false (by rw [hall k (by omega)]; exact fun z => hne ((nI_eq (by omega) (by omega)).mp z).symm), Bool.false_and, Bool.and_false]
    · rw [decide_eq_false hk, Bool.false_and]
  rw [akB_bV hT hs hr hlv, e]
  exact if_pos rfl
theorem kv_63 (hT : TxR S lv (aQ a)) (hs : shpS S) (hr : rngS S) (hlv : lv < 2) (q : Nat) : akB a lv (S.1 24) (S.1 31) 63 q = nI 0 := by
  have e : mSt S (a 54) 63 q = 0 := by
    apply Nat.eq_of_testBit_eq
    intro k
    rw [mSt_bit hs.1 (by decide), Nat.zero_testBit]
    by_cases hk : k < S.1 24
    · rw [bit63 ⟨k, by have := hs.1; omega⟩]; simp
    · rw [decide_eq_false hk, Bool.false_and]
  rw [akB_bV hT hs hr hlv, e]
  exact if_pos rfl
end ASK
/-! the first of the least -/
theorem bq_iso {M N : Nat → Nat} {sp : Nat} (hsp5 : sp ≤ 5) (hM : ∀ p, p < sp → 1 ≤ M p ∧ M p ≤ 64) (hN : ∀ p, p < sp → 1 ≤ N p ∧ N p ≤ 64) (h : ∀ p q, p < sp → q < sp → (M p < M q ↔ N p < N q)) {f : Nat → Int32} (hf : ∀ p, p < sp → akM f p 1000 = nI (N p)) {F : Nat → Int32} (hF : ∀ p, p < sp → F p = nI (M p)) : ∀ n, n < sp → ∃ w, w ≤ n ∧ itN (bqF F) (nI 0, nI 65) (n + 1) = (nI w, nI (M w)) ∧ itN (akE f) (-2, nI 0) (n + 1) = (nI w, nI (N w)) := by
  intro n
  induction n with
  | zero =>
    intro hn
    refine ⟨0, Nat.le_refl _, ?_, ?_⟩
    · show bqF F 0 (nI 0, nI 65) = _
      unfold bqF
      rw [hF 0 hn]
      have := hM 0 hn
      rw [if_pos (show nI (M 0) < nI 65 from (nI_ltI (by omega) (by omega)).mpr (by omega))]
    · show akE f 0 (-2, nI 0) = _
      unfold akE
      rw [if_pos (Or.inl (show (-2 : Int32) < 0 by decide)), hf 0 hn]
  | succ n ih =>
    intro hn
    obtain ⟨w, hw, e1, e2⟩ := ih (by omega)
    have m1 := hM (n + 1) hn
    have m2 := hM w (by omega)
    have n1 := hN (n + 1) hn
    have n2 := hN w (by omega)
    have hh := h (n + 1) w hn (by omega)
    have b1 : itN (bqF F) (nI 0, nI 65) (n + 1 + 1) = bqF F (n + 1) (nI w, nI (M w)) := by rw [← e1]; rfl
    have b2 : itN (akE f) (-2, nI 0) (n + 1 + 1) = akE f (n + 1) (nI w, nI (N w)) := by rw [← e2]; rfl
    rw [b1, b2]
    unfold bqF akE
    rw [hF _ hn, hf _ hn]
    by_cases hlt : M (n + 1) < M w
    · refine ⟨n + 1, Nat.le_refl _, ?_, ?_⟩
      · rw [if_pos (show nI (M (n + 1)) < nI (M w) from (nI_ltI (by omega) (by omega)).mpr hlt)]
      · rw [if_pos (Or.inr (show nI (N (n + 1)) < nI (N w) from (nI_ltI (by omega) (by omega)).mpr (hh.mp hlt)))]
    · refine ⟨w, by omega, ?_, ?_⟩
      · rw [if_neg (show ¬ nI (M (n + 1)) < nI (M w) from fun z => hlt ((nI_ltI (by omega) (by omega)).mp z))]
      · rw [if_neg (fun z => z.elim (fun y => nI_nn (by omega) y) (fun y => hlt (hh.mpr ((nI_ltI (by omega) (by omega)).mp y))))]
theorem qAsk_eq {S : SD} {lv : Nat} {a : Nat → Nat → Int32} {tv : Nat → Int32} {ta : Nat → Nat → Int32} (hX : CX S lv (aQ a) tv ta) (k : Nat) (hTo : ∀ i, i < k → ∃ q w, q < S.1 23 ∧ w ≤ 999 ∧ a 70 i = nI q ∧ a 71 i = nI w) : qAsk a lv (S.1 23) (S.1 24) (S.1 31) k = if (swL a lv (S.1 24) (S.1 31) k (2 ^ S.1 24)).length = 0 then -2 else (itN (bqF (fun p => mlF (fun j => akB a lv (S.1 24) (S.1 31) ((swL a lv (S.1 24) (S.1 31) k (2 ^ S.1 24)).getD j 0) p) (swL a lv (S.1 24) (S.1 31) k (2 ^ S.1 24)).length)) (nI 0, nI 65) (S.1 23)).1 := by
  obtain ⟨hT, hs, hr, hlv, -⟩ := id hX
  have h6 := hs.1
  obtain ⟨-, hsp1, hsp2⟩ := hX.sp
  have hpw := pow6 h6
  obtain ⟨L, hL⟩ : ∃ L, L = swL a lv (S.1 24) (S.1 31) k (2 ^ S.1 24) := ⟨_, rfl⟩
  have hlen := swL_len a lv (S.1 24) (S.1 31) k (2 ^ S.1 24)
  have hlt : ∀ j, j < L.length → L.getD j 0 < 64 := fun j hj => by rw [hL] at hj ⊢; exact Nat.lt_of_lt_of_le (swL_lt hj) hpw
  -- the class
  have hc : ∀ p, ∃ m, mlF (fun j => akB a lv (S.1 24) (S.1 31) (L.getD j 0) p) L.length = nI m ∧ isM (fun j => kvN a lv (S.1 24) (S.1 31) (L.getD j 0) p) L.length m := fun p => ml_isM (fun j => ⟨(kv_eq hT hs hr hlv _ p).1, by have := (kv_eq hT hs hr hlv (L.getD j 0) p).2; have := kv_big (a := a) hs (L.getD j 0) p; omega⟩) _ (by rw [hL]; omega)
  -- the reference
  obtain ⟨F, hF⟩ : ∃ F, F = itN (akF a lv (S.1 23) (S.1 24) (S.1 31) k) (zF (a 72) 5000) (2 ^ S.1 24) := ⟨_, rfl⟩
  have hd : ∀ p, p < S.1 23 → ∃ m, akM F p 1000 = nI m ∧ isM (fun j => hb9 (akB a lv (S.1 24) (S.1 31) (L.getD j 0) p)) L.length m := by
    intro p hp
    have hu : ∀ u, u < 1000 → F (1000 * p + u) = nI (cB (fun j => decide (hb9 (akB a lv (S.1 24) (S.1 31) (L.getD j 0) p) = u)) L.length) ∧ cB (fun j => decide (hb9 (akB a lv (S.1 24) (S.1 31) (L.getD j 0) p) = u)) L.length < 2 ^ 31 := by
      intro u hu
      refine ⟨?_, ?_⟩
      · rw [hF, akF_at hp (by omega) hu, hL, sw_cB (fun s => hb9 (akB a lv (S.1 24) (S.1 31) s p)) u]
      · have := cB_le (fun j => decide (hb9 (akB a lv (S.1 24) (S.1 31) (L.getD j 0) p) = u)) L.length
        rw [hL] at this ⊢
        omega
    obtain ⟨m, h0, h1, h2, h3⟩ := akM_ex hu 1000 (Nat.le_refl _)
    refine ⟨m, h1, fun v => ?_, h3.imp id (fun ⟨u, _, z⟩ => ⟨u, z⟩)⟩
    by_cases hv : v < 1000
    · exact h2 v hv
    · rw [cB_0.mpr (fun j hj => decide_eq_false (fun z => by have h1 := (hb9_eq (akB a lv (S.1 24) (S.1 31) (L.getD j 0) p)).1; have z : hb9 (akB a lv (S.1 24) (S.1 31) (L.getD j 0) p) = v := z; omega))]; omega
  unfold qAsk akR
  rw [← hF, ← hL]
  by_cases h0 : L.length = 0
  · rw [if_pos h0]
    obtain ⟨m, g1, g2⟩ := hd 0 hsp1
    have hm : m = 0 := by have := g2.le; omega
    rw [show S.1 23 = (S.1 23 - 1) + 1 by omega, show findN (fun p => decide (akM F p 1000 = 0)) (S.1 23 - 1 + 1) 0 = some 0 from if_pos (decide_eq_true (by rw [g1, hm]; rfl))]
    rfl
  · rw [if_neg h0]
    have hne : ∀ p, p < S.1 23 → decide (akM F p 1000 = 0) = false := by
      intro p hp
      obtain ⟨m, g1, g2⟩ := hd p hp
      have h1 := g2.pos (by omega)
      have h2 := g2.le
      rw [g1]
      exact decide_eq_false (nI_nz h1 (by rw [hL] at h2; omega))
    rw [findN_none _ _ (fun j _ hj => hne j (by omega))]
    show (itN (akE F) (-2, nI 0) (S.1 23)).1 = _
    obtain ⟨Mc, hMc⟩ : ∃ Mc : Nat → Nat, ∀ p, mlF (fun j => akB a lv (S.1 24) (S.1 31) (L.getD j 0) p) L.length = nI (Mc p) ∧ isM (fun j => kvN a lv (S.1 24) (S.1 31) (L.getD j 0) p) L.length (Mc p) := ⟨fun p => (hc p).choose, fun p => (hc p).choose_spec⟩
    obtain ⟨Mr, hMr⟩ : ∃ Mr : Nat → Nat, ∀ p, p < S.1 23 → akM F p 1000 = nI (Mr p) ∧ isM (fun j => hb9 (akB a lv (S.1 24) (S.1 31) (L.getD j 0) p)) L.length (Mr p) := ⟨fun p => if hp : p < S.1 23 then (hd p hp).choose else 0, fun p hp => by
      have := (hd p hp).choose_spec
      simp only [dif_pos hp]; exact this⟩
    have hL64 : L.length ≤ 64 := by rw [hL]; omega
    have hbk : ∀ s p, hb9 (akB a lv (S.1 24) (S.1 31) s p) = min (kvN a lv (S.1 24) (S.1 31) s p) 999 := fun s p => by
      rw [(kv_eq hT hs hr hlv s p).1]
      exact hb_min (Nat.le_trans (kv_eq hT hs hr hlv s p).2 (kv_big hs s p))
    have same : ∀ p, p < S.1 23 → (∀ i j, i < L.length → j < L.length → 999 ≤ kvN a lv (S.1 24) (S.1 31) (L.getD i 0) p → 999 ≤ kvN a lv (S.1 24) (S.1 31) (L.getD j 0) p → kvN a lv (S.1 24) (S.1 31) (L.getD i 0) p = kvN a lv (S.1 24) (S.1 31) (L.getD j 0) p) → Mr p = Mc p := by
      intro p hp hinj
      have h1 := (hMc p).2.map (fun k => min k 999) (fun i j hi hj z => by
        by_cases g1 : 999 ≤ kvN a lv (S.1 24) (S.1 31) (L.getD i 0) p
        · by_cases g2 : 999 ≤ kvN a lv (S.1 24) (S.1 31) (L.getD j 0) p
          · exact hinj i j hi hj g1 g2
          · omega
        · omega)
      exact (hMr p hp).2.u (h1.cg (fun j hj => hbk _ _))
    have iso : ∀ p q, p < S.1 23 → q < S.1 23 → (Mc p < Mc q ↔ Mr p < Mr q) := by
      by_cases hex : ∃ p, p < S.1 23 ∧ ¬ Mr p = Mc p
      · obtain ⟨p, hp, hpne⟩ := hex
        -- all lie there, and something bears more than may be told
        have hall : S.1 24 = 6 ∧ ∀ k, k < 6 → a 54 (12 + k) = nI p := by
          by_cases z : S.1 24 = 6 ∧ ∀ k, k < 6 → a 54 (12 + k) = nI p
          · exact z
          · exact absurd (same p hp (fun i j hi hj g1 g2 => kv_same hT hs hr hlv (hlt i hi) (hlt j hj) z g1 g2)) hpne
        have hbig : ∃ i, i < L.length ∧ 999 < kvN a lv (S.1 24) (S.1 31) (L.getD i 0) p := by
          by_cases z : ∃ i, i < L.length ∧ 999 < kvN a lv (S.1 24) (S.1 31) (L.getD i 0) p
          · exact z
          · refine absurd (same p hp (fun i j hi hj g1 g2 => ?_)) hpne
            have z1 : ¬ 999 < kvN a lv (S.1 24) (S.1 31) (L.getD i 0) p := fun w => z ⟨i, hi, w⟩
            have z2 : ¬ 999 < kvN a lv (S.1 24) (S.1 31) (L.getD j 0) p := fun w => z ⟨j, hj, w⟩
            omega
        obtain ⟨i0, hi0, hi9⟩ := hbig
        have hzero : ∀ s q, s < 64 → q < S.1 23 → q ≠ p → akB a lv (S.1 24) (S.1 31) s q = nI 0 := fun s q hs6 hq hqp => kv_none hT hs hr hlv hs6 hall.1 hall.2 (by omega) (by omega) hqp
        -- nothing that was told parts the sets
        have hin : mbF (aQ a) lv (S.1 24) (S.1 31) (a 54) k (nI (L.getD i0 0)) = true := by
          have h1 : L.getD i0 0 ∈ L := by rw [List.getD_eq_getElem?_getD, List.getElem?_eq_getElem hi0, Option.getD_some]; exact List.getElem_mem hi0
          rw [hL] at h1 ⊢
          exact (List.mem_filter.mp h1).2
        have hno : ∀ i, i < k → mbP (aQ a) lv (S.1 24) (S.1 31) (a 54) (nI (L.getD i0 0)) i = false := by
          intro i hi
          by_cases z : mbP (aQ a) lv (S.1 24) (S.1 31) (a 54) (nI (L.getD i0 0)) i = true
          · have := findN_is k 0 i (Nat.zero_le _) (by omega) z
            unfold mbF at hin
            cases hf : findN (mbP (aQ a) lv (S.1 24) (S.1 31) (a 54) (nI (L.getD i0 0))) k 0 with
            | none => rw [hf] at this; cases this
            | some w => rw [hf] at hin; cases hin
          · simpa using z
        have hall2 : ∀ s, s < 64 → mbF (aQ a) lv (S.1 24) (S.1 31) (a 54) k (nI s) = true := by
          intro s hs6
          unfold mbF
          rw [findN_none]
          · rfl
          · intro i _ hi
            obtain ⟨q, w, hq, hw, e1, e2⟩ := hTo i (by omega)
            have h1 := of_decide_eq_false (hno i (by omega))
            have h1 : akB a lv (S.1 24) (S.1 31) (L.getD i0 0) q = nI w := by
              have := Decidable.not_not.mp h1
              rw [show aQ a 70 = a 70 from rfl, show aQ a 71 = a 71 from rfl, e1, e2] at this
              exact this
            by_cases hqp : q = p
            · exfalso
              subst hqp
              rw [(kv_eq hT hs hr hlv _ q).1] at h1
              have hkb := kv_big (a := a) hs (L.getD i0 0) q
              have hkb2 := (kv_eq hT hs hr hlv (L.getD i0 0) q).2
              have := (nI_eq (by omega) (by omega)).mp h1
              omega
            · rw [hzero _ q (hlt i0 hi0) hq hqp] at h1
              refine decide_eq_false (fun z => z ?_)
              rw [show aQ a 70 = a 70 from rfl, show aQ a 71 = a 71 from rfl, e1, e2, ← h1]
              exact hzero s q hs6 hq hqp
        have hLr : L = List.range 64 := by
          rw [hL]
          unfold swL
          rw [hall.1, show 2 ^ 6 = 64 from rfl]
          exact List.filter_eq_self.mpr (fun s hs9 => by rw [← hall.1]; exact hall2 s (List.mem_range.mp hs9))
        have hlen64 : L.length = 64 := by rw [hLr, List.length_range]
        have h63 : L.getD 63 0 = 63 := by rw [hLr]; rfl
        have k63 : kvN a lv (S.1 24) (S.1 31) (L.getD 63 0) p = 0 := by rw [h63]; unfold kvN; rw [kv_63 hT hs hr hlv]; rfl
        have c1 : Mc p < 64 := by
          have := (hMc p).2.lt (i := i0) (j := 63) hi0 (by omega) (by rw [k63]; omega)
          omega
        have c2 : Mr p < 64 := by
          have := (hMr p hp).2.lt (i := i0) (j := 63) hi0 (by omega) (by rw [hbk, hbk, k63]; omega)
          omega
        have c3 : ∀ q, q < S.1 23 → q ≠ p → Mc q = 64 ∧ Mr q = 64 := by
          intro q hq hqp
          have g1 := (hMc q).2.const 0 (fun j hj => by unfold kvN; rw [hzero _ q (hlt j hj) hq hqp]; rfl)
          have g2 := (hMr q hq).2.const 0 (fun j hj => by rw [hzero _ q (hlt j hj) hq hqp, hb_min (by omega)]; rfl)
          omega
        intro x y hx hy
        by_cases ex : x = p
        · by_cases ey : y = p
          · rw [ex, ey]; omega
          · have := c3 y hy ey; rw [ex]; omega
        · have hxx := c3 x hx ex
          by_cases ey : y = p
          · rw [ey]; omega
          · have := c3 y hy ey; omega
      · intro x y hx hy
        rw [Decidable.not_not.mp (fun z => hex ⟨x, hx, z⟩), Decidable.not_not.mp (fun z => hex ⟨y, hy, z⟩)]
    obtain ⟨w, -, e1, e2⟩ := bq_iso (M := Mc) (N := Mr) (sp := S.1 23) hsp2 (fun p hp => ⟨(hMc p).2.pos (by omega), Nat.le_trans (hMc p).2.le hL64⟩) (fun p hp => ⟨(hMr p hp).2.pos (by omega), Nat.le_trans (hMr p hp).2.le hL64⟩) iso (fun p hp => (hMr p hp).1) (F := fun p => mlF (fun j => akB a lv (S.1 24) (S.1 31) (L.getD j 0) p) L.length) (fun p hp => (hMc p).1) (S.1 23 - 1) (by omega)
    rw [show S.1 23 - 1 + 1 = S.1 23 by omega] at e1 e2
    rw [e1, e2]
/-! who may be awake -/
theorem aw_len (a : Nat → Nat → Int32) (lv sl cr k : Nat) : ∀ n, awN (aQ a) lv sl cr (a 54) k n = nI (swL a lv sl cr k n).length := by
  intro n
  induction n with
  | zero => rfl
  | succ n ih =>
    show (if mbF (aQ a) lv sl cr (a 54) k (nI n) = true then awN (aQ a) lv sl cr (a 54) k n + nI 1 else awN (aQ a) lv sl cr (a 54) k n) = _
    rw [swL_s, ih]
    split
    · rw [List.length_append, nI_add]; rfl
    · rfl
theorem findN_last (p : Nat → Bool) : ∀ n i, findN p (n + 1) i = match findN p n i with | some s => some s | none => if p (i + n) = true then some (i + n) else none := by
  intro n
  induction n with
  | zero => intro i; rfl
  | succ n ih =>
    intro i
    show (if p i = true then some i else findN p (n + 1) (i + 1)) = match (if p i = true then some i else findN p n (i + 1)) with | some s => some s | none => _
    by_cases h : p i = true
    · rw [if_pos h, if_pos h]
    · rw [if_neg h, if_neg h, ih (i + 1), show i + 1 + n = i + (n + 1) by omega]
theorem aw_find (a : Nat → Nat → Int32) (lv sl cr k : Nat) {j : Nat} (hj : j < 2 ^ 31) : ∀ n, n ≤ 64 → findN (awP (aQ a) lv sl cr (a 54) k (nI j)) n 0 = (swL a lv sl cr k n)[j]? := by
  intro n
  induction n with
  | zero => intro _; rfl
  | succ n ih =>
    intro hn
    have hlen := swL_len a lv sl cr k n
    rw [findN_last, ih (by omega), swL_s, Nat.zero_add]
    have e : awP (aQ a) lv sl cr (a 54) k (nI j) n = (mbF (aQ a) lv sl cr (a 54) k (nI n) && decide ((swL a lv sl cr k n).length = j)) := by
      unfold awP
      rw [aw_len]
      congr 1
      exact decide_eq_decide.mpr (nI_eq (by omega) hj)
    rw [e]
    by_cases hb : mbF (aQ a) lv sl cr (a 54) k (nI n) = true
    · rw [if_pos hb, hb, Bool.true_and]
      rcases Nat.lt_trichotomy j (swL a lv sl cr k n).length with h | h | h
      · rw [List.getElem?_append_left h, List.getElem?_eq_getElem h]
      · subst h
        rw [List.getElem?_append_right (Nat.le_refl _), Nat.sub_self, List.getElem?_eq_none (Nat.le_refl _)]
        show (if decide _ = true then _ else _) = _
        rw [if_pos (decide_eq_true rfl)]; rfl
      · rw [List.getElem?_eq_none (by omega), List.getElem?_eq_none (by rw [List.length_append]; show _ + 1 ≤ j; omega)]
        show (if decide _ = true then _ else _) = _
        rw [if_neg (by rw [decide_eq_false (by omega)]; decide)]
    · rw [if_neg hb, show mbF (aQ a) lv sl cr (a 54) k (nI n) = false by simpa using hb, Bool.false_and]
      cases (swL a lv sl cr k n)[j]? with
      | none => rfl
      | some s => rfl
theorem qAwake_eq {S : SD} (h6 : S.1 24 ≤ 6) (a : Nat → Nat → Int32) (lv k : Nat) (y : Int32) (hy : -1 ≤ y) : qAwake a lv (S.1 24) (S.1 31) k y = if y = -1 then nI (swL a lv (S.1 24) (S.1 31) k (2 ^ S.1 24)).length else if y < nI (swL a lv (S.1 24) (S.1 31) k (2 ^ S.1 24)).length then nI ((swL a lv (S.1 24) (S.1 31) k (2 ^ S.1 24)).getD y.toNatClampNeg 0) else -1 := by
  have hpw := pow6 h6
  have hlen := swL_len a lv (S.1 24) (S.1 31) k (2 ^ S.1 24)
  unfold qAwake
  by_cases h1 : y = -1
  · rw [if_pos h1, if_pos h1, findN_none _ _ (fun j _ hj => ?_), aw_len]
    · rfl
    · unfold awP
      rw [aw_len, h1]
      have hl := swL_len a lv (S.1 24) (S.1 31) k j
      rw [decide_eq_false (fun z => by
        have z := congrArg Int32.toInt z
        rw [nI_toInt (by omega), show (-1 : Int32).toInt = -1 from rfl] at z
        omega), Bool.and_false]
  · rw [if_neg h1, if_neg h1]
    have h0 : 0 ≤ y.toInt := by
      rw [Int32.le_iff_toInt_le, show (-1 : Int32).toInt = -1 from rfl] at hy
      have : y.toInt ≠ -1 := fun z => h1 (Int32.toInt_inj.mp z)
      omega
    have hlt : y.toInt < 2 ^ 31 := Int32.toInt_lt y
    obtain ⟨j, hj⟩ : ∃ j : Nat, (j : Int) = y.toInt := ⟨y.toInt.toNat, by omega⟩
    have hyj : y = nI j := Int32.toInt_inj.mp (by rw [nI_toInt (by omega)]; exact hj.symm)
    have hj31 : j < 2 ^ 31 := by omega
    subst hyj
    rw [aw_find a lv (S.1 24) (S.1 31) k hj31 _ hpw, nI_clamp hj31]
    by_cases hl : j < (swL a lv (S.1 24) (S.1 31) k (2 ^ S.1 24)).length
    · rw [if_pos ((nI_ltI hj31 (by omega)).mpr hl), List.getElem?_eq_getElem hl, List.getD_eq_getElem?_getD, List.getElem?_eq_getElem hl]; rfl
    · rw [if_neg (fun z => hl ((nI_ltI hj31 (by omega)).mp z)), List.getElem?_eq_none (by omega)]; rfl
