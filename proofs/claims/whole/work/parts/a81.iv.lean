/-! THE CLASS AND THE REFERENCE: over what changes -/
theorem pu4_out {f : Nat → Int32} {t j : Nat} {x : Int32} (h : j < t ∨ t + 4 ≤ j) : pu4 f t x j = f j := by
  unfold pu4
  rw [upd_ne (by omega), upd_ne (by omega), upd_ne (by omega), upd_ne (by omega)]
theorem pu4_in {t j : Nat} {x : Int32} (h1 : t ≤ j) (h2 : j < t + 4) : ∃ k, ∀ f : Nat → Int32, pu4 f t x j = byt x k := by
  rcases (show j = t ∨ j = t + 1 ∨ j = t + 2 ∨ j = t + 3 by omega) with rfl | rfl | rfl | rfl
  · exact ⟨24, fun f => by unfold pu4; rw [upd_ne (by omega), upd_ne (by omega), upd_ne (by omega), upd_eq]⟩
  · exact ⟨16, fun f => by unfold pu4; rw [upd_ne (by omega), upd_ne (by omega), upd_eq]⟩
  · exact ⟨8, fun f => by unfold pu4; rw [upd_ne (by omega), upd_eq]⟩
  · exact ⟨0, fun f => by unfold pu4; rw [upd_eq]⟩
theorem fd5_out {f : Nat → Int32} {t j : Nat} {x1 x2 x3 x4 x5 : Int32} (h : j < t) : fd5 f t x1 x2 x3 x4 x5 j = f j := by
  unfold fd5
  rw [pu4_out (by omega), pu4_out (by omega), pu4_out (by omega), pu4_out (by omega), pu4_out (by omega)]
theorem fd5_in {t j : Nat} {x1 x2 x3 x4 x5 : Int32} (h1 : t ≤ j) (h2 : j < t + 20) : ∃ x k, ∀ f : Nat → Int32, fd5 f t x1 x2 x3 x4 x5 j = byt x k := by
  unfold fd5
  by_cases h5 : t + 16 ≤ j
  · obtain ⟨k, hk⟩ := pu4_in (t := t + 16) (j := j) (x := x5) h5 (by omega)
    exact ⟨x5, k, fun f => hk _⟩
  · by_cases h4 : t + 12 ≤ j
    · obtain ⟨k, hk⟩ := pu4_in (t := t + 12) (j := j) (x := x4) h4 (by omega)
      exact ⟨x4, k, fun f => by rw [pu4_out (by omega)]; exact hk _⟩
    · by_cases h3 : t + 8 ≤ j
      · obtain ⟨k, hk⟩ := pu4_in (t := t + 8) (j := j) (x := x3) h3 (by omega)
        exact ⟨x3, k, fun f => by rw [pu4_out (by omega), pu4_out (by omega)]; exact hk _⟩
      · by_cases h2' : t + 4 ≤ j
        · obtain ⟨k, hk⟩ := pu4_in (t := t + 4) (j := j) (x := x2) h2' (by omega)
          exact ⟨x2, k, fun f => by rw [pu4_out (by omega), pu4_out (by omega), pu4_out (by omega)]; exact hk _⟩
        · obtain ⟨k, hk⟩ := pu4_in (t := t) (j := j) (x := x1) h1 (by omega)
          exact ⟨x1, k, fun f => by rw [pu4_out (by omega), pu4_out (by omega), pu4_out (by omega), pu4_out (by omega)]; exact hk _⟩
theorem i8_ok : ∀ z : Fin 256, byI ((vp_nar .byte (vp_nar .byte (Int8.ofBitVec (BitVec.ofFin z)).toInt32) &&& nI 255).toBitVec.toNat) = vp_nar .byte (Int8.ofBitVec (BitVec.ofFin z)).toInt32 ∧ (vp_nar .byte (vp_nar .byte (Int8.ofBitVec (BitVec.ofFin z)).toInt32) &&& nI 255).toBitVec.toNat < 256 := by decide +kernel
theorem byt_ok (x : Int32) (k : Nat) : byt x k = byI ((vp_nar .byte (byt x k) &&& nI 255).toBitVec.toNat) ∧ (vp_nar .byte (byt x k) &&& nI 255).toBitVec.toNat < 256 := by
  have h := i8_ok ((x >>> (nI k &&& 31)).toInt8).toBitVec.toFin
  exact ⟨h.1.symm, h.2⟩
theorem tp_feed {f h : Nat → Int32} {n : Nat} {x1 x2 x3 x4 x5 : Int32} (hT : tpR (bytesOf f) n h) : tpR (bytesOf (fd5 f n x1 x2 x3 x4 x5)) (n + 20) (fd5 h n x1 x2 x3 x4 x5) := by
  intro j hj
  unfold bytesOf
  by_cases hjn : j < n
  · rw [fd5_out hjn, fd5_out hjn]
    exact hT j hjn
  · obtain ⟨x, k, hk⟩ := fd5_in (x1 := x1) (x2 := x2) (x3 := x3) (x4 := x4) (x5 := x5) (show n ≤ j by omega) hj
    rw [hk f, hk h]
    exact byt_ok x k
section IVS
variable {H : Nat} {S : SD} {lv : Nat} {v : Nat → Int32} {a : Nat → Nat → Int32} {b : Nat → Nat → Int64} {bv tv : Nat → Int32} {ta : Nat → Nat → Int32} {rv : Nat → Int32} {ra : Nat → Nat → Int32} {rb : Nat → Nat → Int64} {qv : Nat → Int32} {qa : Nat → Nat → Int32} {nv : Nat → Int32} {na : Nat → Nat → Int32} {cf cs : Nat → Int32}
theorem IV.feed (h : IV H S lv v a b bv tv ta rv ra rb qv qa nv na cf cs) {n : Nat} (hn : n + 20 ≤ 2000) (hv : v 2 = nI n) (hr : rv 0 = nI n) (hT : tpR (bytesOf (a 1)) n (ra 2)) (x1 x2 x3 x4 x5 : Int32) : IV H S lv (va_up v 2 (nI (n + 20))) (va_up a 1 (fd5 (a 1) n x1 x2 x3 x4 x5)) b bv tv ta (va_up rv 0 (nI (n + 20))) (va_up ra 2 (fd5 (ra 2) n x1 x2 x3 x4 x5)) rb qv qa nv na cf cs :=
  ⟨h.tx.ch (L := [1]) (chg.up (by decide)) (by decide), h.v18, h.nt, h.rr, h.un, h.sl, h.to, ⟨n + 20, hn, rfl, rfl, tp_feed hT⟩, h.pl, h.k9, h.w3⟩
theorem IV.back (h : IV H S lv v a b bv tv ta rv ra rb qv qa nv na cf cs) {n k : Nat} (hn : n ≤ 2000) (hk : k ≤ n) (hT : tpR (bytesOf (a 1)) n (ra 2)) : IV H S lv (va_up v 2 (nI (n - k))) a b bv tv ta (va_up rv 0 (nI (n - k))) ra rb qv qa nv na cf cs :=
  ⟨h.tx, h.v18, h.nt, h.rr, h.un, h.sl, h.to, ⟨n - k, by omega, rfl, rfl, fun j hj => hT j (by omega)⟩, h.pl, h.k9, h.w3⟩
theorem IV.forget (h : IV H S lv v a b bv tv ta rv ra rb qv qa nv na cf cs) : IV H S lv (va_up v 69 (nI 0)) a b bv tv ta rv ra rb (va_up qv 0 (nI 0)) qa nv na cf cs :=
  ⟨h.tx, h.v18, h.nt, h.rr, h.un, h.sl, ⟨0, by omega, rfl, rfl, fun i hi => absurd hi (Nat.not_lt_zero _)⟩, h.tp, h.pl, h.k9, h.w3⟩
theorem IV.tell (h : IV H S lv v a b bv tv ta rv ra rb qv qa nv na cf cs) {tn q w : Nat} (ht : tn < 20) (hq : q < S.1 23) (hw : w ≤ 999) (ho : ∀ i, i < tn → (qa 3 i = a 70 i ∧ qa 4 i = a 71 i) ∧ ∃ q w, q < S.1 23 ∧ w ≤ 999 ∧ a 70 i = nI q ∧ a 71 i = nI w) : IV H S lv (va_up v 69 (nI (tn + 1))) (va_up (va_up a 70 (upd (a 70) tn (nI q))) 71 (upd (a 71) tn (nI w))) b bv tv ta rv ra rb (va_up qv 0 (nI (tn + 1))) (va_up (va_up qa 3 (upd (qa 3) tn (nI q))) 4 (upd (qa 4) tn (nI w))) nv na cf cs := by
  refine ⟨h.tx.ch (L := [70, 71]) ((chg.up (by decide)).tr (chg.up (by decide))) (by decide), h.v18, h.nt, h.rr, h.un, h.sl, ⟨tn + 1, by omega, rfl, rfl, fun i hi => ?_⟩, h.tp, h.pl, h.k9, h.w3⟩
  show (upd (qa 3) tn (nI q) i = upd (a 70) tn (nI q) i ∧ upd (qa 4) tn (nI w) i = upd (a 71) tn (nI w) i) ∧ ∃ q' w', q' < S.1 23 ∧ w' ≤ 999 ∧ upd (a 70) tn (nI q) i = nI q' ∧ upd (a 71) tn (nI w) i = nI w'
  by_cases e : i = tn
  · subst e
    rw [upd_eq, upd_eq, upd_eq, upd_eq]
    exact ⟨⟨rfl, rfl⟩, q, w, hq, hw, rfl, rfl⟩
  · rw [upd_ne e, upd_ne e, upd_ne e, upd_ne e]
    exact ho i (by omega)
theorem IV.undo (h : IV H S lv v a b bv tv ta rv ra rb qv qa nv na cf cs) {u np : Nat} {nv' : Nat → Int32} {na' : Nat → Nat → Int32} (hu : u ≤ 40) (hu1 : 1 ≤ u) (hnp : np < 40) (ho : ∀ j, j < u → CNt S (hRow (a 62) j) (shv cf ((np + 40 - u + j) % 40)) (sha cf ((np + 40 - u + j) % 40)) ∧ RR S H (hRow (a 62) j)) (hE : NEq (shv cf ((np + 39) % 40)) (sha cf ((np + 39) % 40)) nv' na') : IV H S lv (va_up v 61 (nI (u - 1))) (va_up a 54 (hRow (a 62) (u - 1))) b (va_up (va_up bv 10 (nI (u - 1))) 11 (nI ((np + 39) % 40))) tv ta rv ra rb qv qa nv' na' cf cs := by
  have e1 : (np + 40 - u + (u - 1)) % 40 = (np + 39) % 40 := by omega
  obtain ⟨o1, o2⟩ := ho (u - 1) (by omega)
  rw [e1] at o1
  refine ⟨h.tx.ch (L := [54]) (chg.up (by decide)) (by decide), h.v18, o1.eq h.tx.2.1.1 hE, o2, ⟨u - 1, (np + 39) % 40, by omega, Nat.mod_lt _ (by decide), rfl, rfl, rfl, fun j hj => ?_⟩, h.sl, h.to, h.tp, h.pl, h.k9, h.w3⟩
  have e2 : ((np + 39) % 40 + 40 - (u - 1) + j) % 40 = (np + 40 - u + j) % 40 := by omega
  rw [e2]
  exact ho j (by omega)
theorem pl_row (f g : Nat → Int32) {x j : Nat} : ∀ k, k < 32 → hRow (plF f g (32 * x) 32) j k = if j = x then g k else hRow f j k := by
  intro k hk
  unfold hRow plF
  by_cases e : j = x
  · subst e
    rw [if_pos (by omega), if_pos rfl]
    congr 1
    omega
  · rw [if_neg (by omega), if_neg e]
theorem or_bits : ∀ f : Fin 8, ∀ x : Fin 3, f.val ||| 2 ^ x.val < 8 ∧ ∀ j : Fin 3, (f.val ||| 2 ^ x.val).testBit j.val = (f.val.testBit j.val || decide (j.val = x.val)) := by decide +kernel
theorem IV.hold (h : IV H S lv v a b bv tv ta rv ra rb qv qa nv na cf cs) {f x : Nat} (hf : f < 8) (hx : x < 3) (h73 : ∀ j, j < 3 → (a 73 j = nI 0 ∧ f.testBit j = false) ∨ (a 73 j = nI 1 ∧ f.testBit j = true)) (h74 : ∀ j, j < 3 → f.testBit j = true → CNt S (hRow (a 74) j) (shv cs j) (sha cs j) ∧ RR S H (hRow (a 74) j)) : IV H S lv v (va_up (va_up a 73 (upd (a 73) x (nI 1))) 74 (plF (a 74) (a 54) (32 * x) 32)) b (va_up bv 12 (nI (f ||| 2 ^ x))) tv ta rv ra rb qv qa nv na cf (stF cs x nv na) := by
  have hs := h.tx.2.1
  have ob := or_bits ⟨f, hf⟩ ⟨x, hx⟩
  have bj : ∀ j, j < 3 → (f ||| 2 ^ x).testBit j = (f.testBit j || decide (j = x)) := fun j hj => ob.2 ⟨j, hj⟩
  refine ⟨h.tx.ch (L := [73, 74]) ((chg.up (by decide)).tr (chg.up (by decide))) (by decide), h.v18, h.nt, h.rr, h.un, ⟨f ||| 2 ^ x, ob.1, rfl, fun j hj => ?_, fun j hj hb => ?_⟩, h.to, h.tp, h.pl, h.k9, h.w3⟩
  · show (upd (a 73) x (nI 1) j = nI 0 ∧ _) ∨ (upd (a 73) x (nI 1) j = nI 1 ∧ _)
    rw [bj j hj]
    by_cases e : j = x
    · subst e; rw [upd_eq]; exact Or.inr ⟨rfl, by simp⟩
    · rw [upd_ne e, decide_eq_false e, Bool.or_false]; exact h73 j hj
  · have hr := pl_row (a 74) (a 54) (x := x) (j := j)
    by_cases e : j = x
    · subst e
      have hr2 : ∀ k, k < 32 → hRow (plF (a 74) (a 54) (32 * j) 32) j k = a 54 k := fun k hk => (hr k hk).trans (if_pos rfl)
      exact ⟨(h.nt.eq hs.1 (stF_in cs j nv na)).row hr2 hs.1, h.rr.row hs hr2⟩
    · rw [bj j hj, decide_eq_false e, Bool.or_false] at hb
      have hr2 : ∀ k, k < 32 → hRow (plF (a 74) (a 54) (32 * x) 32) j k = hRow (a 74) j k := fun k hk => (hr k hk).trans (if_neg e)
      obtain ⟨o1, o2⟩ := h74 j hj hb
      exact ⟨(stF_far e hs.1 o1).row hr2 hs.1, o2.row hs hr2⟩
theorem IV.restore (h : IV H S lv v a b bv tv ta rv ra rb qv qa nv na cf cs) {x : Nat} {nv' : Nat → Int32} {na' : Nat → Nat → Int32} (ho : CNt S (hRow (a 74) x) (shv cs x) (sha cs x) ∧ RR S H (hRow (a 74) x)) (hE : NEq (shv cs x) (sha cs x) nv' na') : IV H S lv (va_up v 61 (nI 0)) (va_up a 54 (hRow (a 74) x)) b (va_up bv 10 (nI 0)) tv ta rv ra rb qv qa nv' na' cf cs := by
  obtain ⟨u, np, h1, h2, h3, h4, h5, h6⟩ := h.un
  exact ⟨h.tx.ch (L := [54]) (chg.up (by decide)) (by decide), h.v18, ho.1.eq h.tx.2.1.1 hE, ho.2, ⟨0, np, by omega, h2, rfl, rfl, h5, fun j hj => absurd hj (Nat.not_lt_zero _)⟩, h.sl, h.to, h.tp, h.pl, h.k9, h.w3⟩
theorem str0 {k : Nat} (h : k ∉ txA) (h2 : k ∉ [40, 46]) : strd k = 0 := by
  unfold strd
  rw [if_neg (fun w => h (by revert w; simp only [txA, List.mem_cons, List.not_mem_nil, or_false]; omega)), if_neg (fun w => h (by revert w; simp only [txA, List.mem_cons, List.not_mem_nil, or_false]; omega)), if_neg (fun w => h (by revert w; simp only [txA, List.mem_cons, List.not_mem_nil, or_false]; omega)), if_neg (fun w => h (by revert w; simp only [txA, List.mem_cons, List.not_mem_nil, or_false]; omega)), if_neg (fun w => h (by revert w; simp only [txA, List.mem_cons, List.not_mem_nil, or_false]; omega)), if_neg (fun w => h (by revert w; simp only [txA, List.mem_cons, List.not_mem_nil, or_false]; omega))]
theorem fr0 {sd k : Nat} {a a' : Nat → Nat → Int32} (h : rdFr sd a a') (h1 : k ∉ [3, 5, 6, 7, 22, 49]) (h2 : k ∉ txA) (h3 : k ∉ [40, 46]) : a' k = a k := by
  funext j
  refine h k h1 j ?_
  rw [str0 h2 h3]
  omega
/-- a text with a fault: all stays -/
theorem IV.bad (h : IV H S lv v a b bv tv ta rv ra rb qv qa nv na cf cs) {sd : Nat} (hls : lv + sd = 1) {v' : Nat → Int32} {a' : Nat → Nat → Int32} {b' rb' : Nat → Nat → Int64} {rv' : Nat → Int32} {ra' : Nat → Nat → Int32} (hv : chg rdV v v') (hf : rdFr sd a a') (hb : chg [8, 21] b b') (h2 : v' 2 = nI 0) (r0 : rv' 0 = nI 0) (hpl : v' 17 = rv' 1) (hrb : rb' 3 = rb 3) : IV H S lv v' a' b' bv tv ta rv' ra' rb' qv qa nv na cf cs := by
  have e54 : a' 54 = a 54 := fr0 hf (by decide) (by decide) (by decide)
  have e62 : a' 62 = a 62 := fr0 hf (by decide) (by decide) (by decide)
  have e70 : a' 70 = a 70 := fr0 hf (by decide) (by decide) (by decide)
  have e71 : a' 71 = a 71 := fr0 hf (by decide) (by decide) (by decide)
  have e73 : a' 73 = a 73 := fr0 hf (by decide) (by decide) (by decide)
  have e74 : a' 74 = a 74 := fr0 hf (by decide) (by decide) (by decide)
  refine ⟨⟨h.tx.1.fr h.tx.2.1 (fun k hk j h1 h2 => ?_), h.tx.2⟩, (hv 18 (by decide)).trans h.v18, by rw [e54]; exact h.nt, by rw [e54]; exact h.rr, ?_, ?_, ?_, ⟨0, by omega, h2, r0, fun j hj => absurd hj (Nat.not_lt_zero _)⟩, hpl, by rw [hb 9 (by decide)]; exact h.k9, by rw [hrb]; exact h.w3⟩
  · refine hf k (by revert hk; simp only [txA, List.mem_cons, List.not_mem_nil, or_false]; omega) j (fun w => ?_)
    rcases (show (lv = 0 ∧ sd = 1) ∨ (lv = 1 ∧ sd = 0) by omega) with ⟨rfl, rfl⟩ | ⟨rfl, rfl⟩ <;> omega
  · have := h.un
    unfold IUn at this ⊢
    rw [hv 61 (by decide), e62]; exact this
  · have := h.sl
    unfold ISl at this ⊢
    rw [e73, e74]; exact this
  · have := h.to
    unfold ITo at this ⊢
    rw [hv 69 (by decide), e70, e71]; exact this
end IVS
/-- a new text: all begins anew -/
theorem IV.good {v : Nat → Int32} {a : Nat → Nat → Int32} {b : Nat → Nat → Int64} {bv tv : Nat → Int32} {ta : Nat → Nat → Int32} {rv : Nat → Int32} {ra : Nat → Nat → Int32} {rb : Nat → Nat → Int64} {qv : Nat → Int32} {qa : Nat → Nat → Int32} {nv : Nat → Int32} {na : Nat → Nat → Int32} {cf cs : Nat → Int32} {S : SD} {lv : Nat} (hX : CX S lv a tv ta) (h18 : v 18 = nI lv) (h61 : v 61 = nI 0) (h69 : v 69 = nI 0) (h2 : v 2 = nI 0) (h17 : v 17 = rv 1) (r0 : rv 0 = nI 0) (h54 : a 54 = bgR a lv (S.1 24)) (h73 : ∀ j, j < 3 → a 73 j = nI 0) (hN : CNt S (bgR a lv (S.1 24)) nv na) (hb10 : bv 10 = nI 0) (hb12 : bv 12 = nI 0) {np : Nat} (hnp : np < 40) (hb11 : bv 11 = nI np) (hq : qv 0 = nI 0) (hk9 : ∀ q, q < 22 → b 9 q = lN (enc 27 (wds.getD q []))) (hw3 : ∀ q, q < 22 → rb 3 q = lN (enc 32 (wds.getD q []))) : IV 0 S lv v a b bv tv ta rv ra rb qv qa nv na cf cs := by
  refine ⟨hX, h18, by rw [h54]; exact hN, by rw [h54]; exact RR.bg hX.1 hX.2.1 hX.2.2.1, ⟨0, np, by omega, hnp, h61, hb10, hb11, fun j hj => absurd hj (Nat.not_lt_zero _)⟩, ⟨0, by decide, hb12, fun j hj => Or.inl ⟨h73 j hj, Nat.zero_testBit j⟩, fun j hj hb => by rw [Nat.zero_testBit] at hb; cases hb⟩, ⟨0, by omega, h69, hq, fun j hj => absurd hj (Nat.not_lt_zero _)⟩, ⟨0, by omega, h2, r0, fun j hj => absurd hj (Nat.not_lt_zero _)⟩, h17, hk9, hw3⟩
