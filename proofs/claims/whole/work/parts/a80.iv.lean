/-! THE CLASS AND THE REFERENCE: what they have in common -/
def hRow (f : Nat → Int32) (j : Nat) : Nat → Int32 := fun k => f (32 * j + k)
def IUn (H : Nat) (S : SD) (v : Nat → Int32) (a : Nat → Nat → Int32) (bv cf : Nat → Int32) : Prop := ∃ u np, u ≤ 40 ∧ np < 40 ∧ v 61 = nI u ∧ bv 10 = nI u ∧ bv 11 = nI np ∧ ∀ j, j < u → CNt S (hRow (a 62) j) (shv cf ((np + 40 - u + j) % 40)) (sha cf ((np + 40 - u + j) % 40)) ∧ RR S H (hRow (a 62) j)
def ISl (H : Nat) (S : SD) (a : Nat → Nat → Int32) (bv cs : Nat → Int32) : Prop := ∃ f, f < 8 ∧ bv 12 = nI f ∧ (∀ j, j < 3 → (a 73 j = nI 0 ∧ f.testBit j = false) ∨ (a 73 j = nI 1 ∧ f.testBit j = true)) ∧ ∀ j, j < 3 → f.testBit j = true → CNt S (hRow (a 74) j) (shv cs j) (sha cs j) ∧ RR S H (hRow (a 74) j)
def ITo (S : SD) (v : Nat → Int32) (a : Nat → Nat → Int32) (qv : Nat → Int32) (qa : Nat → Nat → Int32) : Prop := ∃ tn, tn ≤ 20 ∧ v 69 = nI tn ∧ qv 0 = nI tn ∧ ∀ i, i < tn → (qa 3 i = a 70 i ∧ qa 4 i = a 71 i) ∧ ∃ q w, q < S.1 23 ∧ w ≤ 999 ∧ a 70 i = nI q ∧ a 71 i = nI w
def ITp (v : Nat → Int32) (a : Nat → Nat → Int32) (rv : Nat → Int32) (ra : Nat → Nat → Int32) : Prop := ∃ n, n ≤ 2000 ∧ v 2 = nI n ∧ rv 0 = nI n ∧ tpR (bytesOf (a 1)) n (ra 2)
def IV (H : Nat) (S : SD) (lv : Nat) (v : Nat → Int32) (a : Nat → Nat → Int32) (b : Nat → Nat → Int64) (bv tv : Nat → Int32) (ta : Nat → Nat → Int32) (rv : Nat → Int32) (ra : Nat → Nat → Int32) (rb : Nat → Nat → Int64) (qv : Nat → Int32) (qa : Nat → Nat → Int32) (nv : Nat → Int32) (na : Nat → Nat → Int32) (cf cs : Nat → Int32) : Prop := CX S lv a tv ta ∧ v 18 = nI lv ∧ CNt S (a 54) nv na ∧ RR S H (a 54) ∧ IUn H S v a bv cf ∧ ISl H S a bv cs ∧ ITo S v a qv qa ∧ ITp v a rv ra ∧ v 17 = rv 1 ∧ (∀ q, q < 22 → b 9 q = lN (enc 27 (wds.getD q []))) ∧ ∀ q, q < 22 → rb 3 q = lN (enc 32 (wds.getD q []))
section IVS
variable {H : Nat} {S : SD} {lv : Nat} {v : Nat → Int32} {a : Nat → Nat → Int32} {b : Nat → Nat → Int64} {bv tv : Nat → Int32} {ta : Nat → Nat → Int32} {rv : Nat → Int32} {ra : Nat → Nat → Int32} {rb : Nat → Nat → Int64} {qv : Nat → Int32} {qa : Nat → Nat → Int32} {nv : Nat → Int32} {na : Nat → Nat → Int32} {cf cs : Nat → Int32}
theorem IV.tx (h : IV H S lv v a b bv tv ta rv ra rb qv qa nv na cf cs) : CX S lv a tv ta := h.1
theorem IV.v18 (h : IV H S lv v a b bv tv ta rv ra rb qv qa nv na cf cs) : v 18 = nI lv := h.2.1
theorem IV.nt (h : IV H S lv v a b bv tv ta rv ra rb qv qa nv na cf cs) : CNt S (a 54) nv na := h.2.2.1
theorem IV.rr (h : IV H S lv v a b bv tv ta rv ra rb qv qa nv na cf cs) : RR S H (a 54) := h.2.2.2.1
theorem IV.un (h : IV H S lv v a b bv tv ta rv ra rb qv qa nv na cf cs) : IUn H S v a bv cf := h.2.2.2.2.1
theorem IV.sl (h : IV H S lv v a b bv tv ta rv ra rb qv qa nv na cf cs) : ISl H S a bv cs := h.2.2.2.2.2.1
theorem IV.to (h : IV H S lv v a b bv tv ta rv ra rb qv qa nv na cf cs) : ITo S v a qv qa := h.2.2.2.2.2.2.1
theorem IV.tp (h : IV H S lv v a b bv tv ta rv ra rb qv qa nv na cf cs) : ITp v a rv ra := h.2.2.2.2.2.2.2.1
theorem IV.pl (h : IV H S lv v a b bv tv ta rv ra rb qv qa nv na cf cs) : v 17 = rv 1 := h.2.2.2.2.2.2.2.2.1
theorem IV.k9 (h : IV H S lv v a b bv tv ta rv ra rb qv qa nv na cf cs) : ∀ q, q < 22 → b 9 q = lN (enc 27 (wds.getD q [])) := h.2.2.2.2.2.2.2.2.2.1
theorem IV.w3 (h : IV H S lv v a b bv tv ta rv ra rb qv qa nv na cf cs) : ∀ q, q < 22 → rb 3 q = lN (enc 32 (wds.getD q [])) := h.2.2.2.2.2.2.2.2.2.2
theorem IV.mi (h : IV H S lv v a b bv tv ta rv ra rb qv qa nv na cf cs) : MI v a lv (S.1 23) (S.1 24) (S.1 31) := by
  have hs := h.tx.2.1
  have hr := h.tx.2.2.1
  exact ⟨h.v18, h.tx.2.2.2.1, h.tx.1.1 23 (by decide), hr.1.1, hr.1.2, h.tx.1.1 24 (by decide), hs.1, h.tx.1.1 31 (by decide), hs.2.1⟩
theorem IV.wf (h : IV H S lv v a b bv tv ta rv ra rb qv qa nv na cf cs) : wf3 a lv := h.tx.1.w3 h.tx.2.1 h.tx.2.2.2.1
theorem IV.gr (h : IV H S lv v a b bv tv ta rv ra rb qv qa nv na cf cs) : GR S H (a 54) := h.rr.1
theorem IUn.mono {H' : Nat} (h : IUn H S v a bv cf) (hh : H ≤ H') : IUn H' S v a bv cf := by
  obtain ⟨u, np, h1, h2, h3, h4, h5, h6⟩ := h
  exact ⟨u, np, h1, h2, h3, h4, h5, fun j hj => ⟨(h6 j hj).1, (h6 j hj).2.mono hh⟩⟩
theorem ISl.mono {H' : Nat} (h : ISl H S a bv cs) (hh : H ≤ H') : ISl H' S a bv cs := by
  obtain ⟨f, h1, h2, h3, h4⟩ := h
  exact ⟨f, h1, h2, h3, fun j hj hb => ⟨(h4 j hj hb).1, (h4 j hj hb).2.mono hh⟩⟩
theorem IV.mono {H' : Nat} (h : IV H S lv v a b bv tv ta rv ra rb qv qa nv na cf cs) (hh : H ≤ H') : IV H' S lv v a b bv tv ta rv ra rb qv qa nv na cf cs := ⟨h.tx, h.v18, h.nt, h.rr.mono hh, h.un.mono hh, h.sl.mono hh, h.to, h.tp, h.pl, h.k9, h.w3⟩
theorem CX.c22 {ta' : Nat → Nat → Int32} (h : CX S lv a tv ta) (hc : chg [22] ta ta') : CX S lv a tv ta' := by
  obtain ⟨h1, h2, h3, h4, t1, t2, t3, t4, sz, t5, t6, t7⟩ := h
  refine ⟨h1, h2, h3, h4, t1, ?_, ?_, ?_, sz, t5, t6, ?_⟩
  · rw [hc 8 (by decide), hc 9 (by decide), hc 10 (by decide), hc 11 (by decide)]; exact t2
  · rw [hc 14 (by decide), hc 15 (by decide), hc 16 (by decide)]; exact t3
  · rw [hc 12 (by decide)]; exact t4
  · rw [hc 20 (by decide), hc 21 (by decide)]; exact t7
theorem IV.c22 {ta' : Nat → Nat → Int32} (h : IV H S lv v a b bv tv ta rv ra rb qv qa nv na cf cs) (hc : chg [22] ta ta') : IV H S lv v a b bv tv ta' rv ra rb qv qa nv na cf cs := ⟨h.tx.c22 hc, h.2⟩
theorem IV.ru {qv' : Nat → Int32} {qa' : Nat → Nat → Int32} (h : IV H S lv v a b bv tv ta rv ra rb qv qa nv na cf cs) (hq : qv' 0 = qv 0 ∧ qa' 3 = qa 3 ∧ qa' 4 = qa 4) : IV H S lv v a b bv tv ta rv ra rb qv' qa' nv na cf cs := by
  obtain ⟨tn, h1, h2, h3, h4⟩ := h.to
  exact ⟨h.tx, h.v18, h.nt, h.rr, h.un, h.sl, ⟨tn, h1, h2, hq.1.trans h3, by rw [hq.2.1, hq.2.2]; exact h4⟩, h.tp, h.pl, h.k9, h.w3⟩
/-- the text, where nothing that it reads was written -/
theorem CX.ch {L : List Nat} {a' : Nat → Nat → Int32} (h : CX S lv a tv ta) (hc : chg L a a') (hL : ∀ k, k ∈ txA → k ∉ L) : CX S lv a' tv ta := ⟨h.1.fr h.2.1 (fun k hk j _ _ => by rw [hc k (hL k hk)]), h.2⟩
theorem IV.qs {v' : Nat → Int32} {a' : Nat → Nat → Int32} (h : IV H S lv v a b bv tv ta rv ra rb qv qa nv na cf cs) (hq : Qs v v' a a') : IV H S lv v' a' b bv tv ta rv ra rb qv qa nv na cf cs := by
  obtain ⟨q1, q2⟩ := hq
  refine ⟨h.tx.ch q2 (by decide), (q1 18 (by decide)).trans h.v18, by rw [q2 54 (by decide)]; exact h.nt, by rw [q2 54 (by decide)]; exact h.rr, ?_, ?_, ?_, ?_, (q1 17 (by decide)).trans h.pl, h.k9, h.w3⟩
  · have := h.un
    unfold IUn at this ⊢
    rw [q1 61 (by decide), q2 62 (by decide)]; exact this
  · have := h.sl
    unfold ISl at this ⊢
    rw [q2 73 (by decide), q2 74 (by decide)]; exact this
  · have := h.to
    unfold ITo at this ⊢
    rw [q1 69 (by decide), q2 70 (by decide), q2 71 (by decide)]; exact this
  · have := h.tp
    unfold ITp at this ⊢
    rw [q1 2 (by decide), q2 1 (by decide)]; exact this

theorem kH_row (f : Nat → Int32) {u j : Nat} (now : Nat → Int32) (hu : u ≤ 40) (hj : j < kU u) : ∀ k, k < 32 → hRow (kH f u now) j k = hRow f (if u = 40 then j + 1 else j) k := by
  intro k hk
  unfold hRow kH plF kU at *
  by_cases h40 : u = 40
  · rw [if_pos h40] at hj
    rw [if_pos h40, if_pos h40, if_pos h40, if_neg (by omega)]
    unfold shF
    rw [if_pos (by omega)]
    congr 1
    omega
  · rw [if_neg h40] at hj
    rw [if_neg h40, if_neg h40, if_neg h40, if_neg (by omega)]
theorem kH_last (f : Nat → Int32) {u : Nat} (now : Nat → Int32) : ∀ k, k < 32 → hRow (kH f u now) (kU u) k = now k := by
  intro k hk
  unfold hRow kH plF
  rw [if_pos (by omega)]
  congr 1
  omega
theorem stF_far {cf : Nat → Int32} {i i' : Nat} {nv : Nat → Int32} {na : Nat → Nat → Int32} (h : i' ≠ i) {R : Nat → Int32} (hs : S.1 24 ≤ 6) (hc : CNt S R (shv cf i') (sha cf i')) : CNt S R (shv (stF cf i nv na) i') (sha (stF cf i nv na) i') := hc.eq hs (stF_oth h)
/-- what is remembered, on both sides -/
theorem IUn.rem {H' : Nat} {v' : Nat → Int32} {a' : Nat → Nat → Int32} {u np : Nat} (hs : shpS S) (hu : u ≤ 40) (hnp : np < 40) (e11 : bv 11 = nI np) (hold : ∀ j, j < u → CNt S (hRow (a 62) j) (shv cf ((np + 40 - u + j) % 40)) (sha cf ((np + 40 - u + j) % 40)) ∧ RR S H (hRow (a 62) j)) (hN : CNt S (a 54) nv na) (hR : RR S H (a 54)) (hH : H ≤ H') (e61 : v' 61 = nI (kU u + 1)) (e62 : a' 62 = kH (a 62) u (a 54)) : IUn H' S v' a' (va_up (va_up bv 11 (nI ((np + 1) % 40))) 10 (nI (min (u + 1) 40))) (stF cf np nv na) := by
  have h6 := hs.1
  have hkU : kU u + 1 = min (u + 1) 40 := by unfold kU; split <;> omega
  refine ⟨kU u + 1, (np + 1) % 40, by omega, Nat.mod_lt _ (by decide), e61, ?_, rfl, fun j hj => ?_⟩
  · show nI (min (u + 1) 40) = _
    rw [hkU]
  · rw [e62]
    by_cases hl : j = kU u
    · subst hl
      have ep : ((np + 1) % 40 + 40 - (kU u + 1) + kU u) % 40 = np := by
        have : kU u + 1 ≤ 40 := by omega
        omega
      rw [ep]
      exact ⟨(hN.eq h6 (stF_in cf np nv na)).row (kH_last (a 62) (a 54)) h6, (hR.mono hH).row hs (kH_last (a 62) (a 54))⟩
    · have hj2 : j < kU u := by omega
      by_cases h40 : u = 40
      · have hk := kH_row (a 62) (a 54) hu hj2
        rw [if_pos h40] at hk
        have ek : kU u = 39 := by unfold kU; rw [if_pos h40]
        obtain ⟨o1, o2⟩ := hold (j + 1) (by omega)
        have ep : ((np + 1) % 40 + 40 - (kU u + 1) + j) % 40 = (np + 40 - u + (j + 1)) % 40 := by omega
        rw [ep]
        exact ⟨(stF_far (by omega) h6 o1).row hk h6, (o2.mono hH).row hs hk⟩
      · have hk := kH_row (a 62) (a 54) hu hj2
        rw [if_neg h40] at hk
        have ek : kU u = u := by unfold kU; rw [if_neg h40]
        obtain ⟨o1, o2⟩ := hold j (by omega)
        have ep : ((np + 1) % 40 + 40 - (kU u + 1) + j) % 40 = (np + 40 - u + j) % 40 := by omega
        rw [ep]
        exact ⟨(stF_far (by omega) h6 o1).row hk h6, (o2.mono hH).row hs hk⟩
/-- a new row, the old one remembered -/
theorem IV.nw {H' : Nat} {v' : Nat → Int32} {a' : Nat → Nat → Int32} {R nv' : Nat → Int32} {na' : Nat → Nat → Int32} {u np : Nat} (h : IV H S lv v a b bv tv ta rv ra rb qv qa nv na cf cs) (hH : H ≤ H') (hu : u ≤ 40) (hnp : np < 40) (e11 : bv 11 = nI np) (hold : ∀ j, j < u → CNt S (hRow (a 62) j) (shv cf ((np + 40 - u + j) % 40)) (sha cf ((np + 40 - u + j) % 40)) ∧ RR S H (hRow (a 62) j)) (hq : Nw v v' a a' u R) (hN : CNt S R nv' na') (hR : RR S H' R) : IV H' S lv v' a' b (va_up (va_up bv 11 (nI ((np + 1) % 40))) 10 (nI (min (u + 1) 40))) tv ta rv ra rb qv qa nv' na' (stF cf np nv na) cs := by
  obtain ⟨q1, q2, q3, q4, q5⟩ := hq
  refine ⟨h.tx.ch q2 (by decide), (q1 18 (by decide)).trans h.v18, by rw [q5]; exact hN, by rw [q5]; exact hR, IUn.rem h.tx.2.1 hu hnp e11 hold h.nt h.rr hH q3 q4, ?_, ?_, ?_, (q1 17 (by decide)).trans h.pl, h.k9, h.w3⟩
  · have := h.sl.mono hH
    unfold ISl at this ⊢
    rw [q2 73 (by decide), q2 74 (by decide)]; exact this
  · have := h.to
    unfold ITo at this ⊢
    rw [q1 69 (by decide), q2 70 (by decide), q2 71 (by decide)]; exact this
  · have := h.tp
    unfold ITp at this ⊢
    rw [q1 2 (by decide), q2 1 (by decide)]; exact this
end IVS
