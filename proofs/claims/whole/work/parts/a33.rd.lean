/-! THE CLASS: what is taken from the tokens -/
def xW (tv : Nat → Int32) (ta : Nat → Nat → Int32) (tb : Nat → Nat → Int64) : px_W := [.inr (7, [.int (tv 0), .int (tv 1), .int (tv 2), .int (tv 3), .int (tv 4), .int (tv 5), .int (tv 6), .ref 7, .ref 8, .ref 9, .ref 10, .ref 11, .ref 12, .ref 13, .ref 14, .ref 15, .ref 16, .ref 17]), .inl (.long, 6, .inr (.inl (tb 7))), .inl (.int, 6, .inl (ta 8)), .inl (.int, 6, .inl (ta 9)), .inl (.int, 6, .inl (ta 10)), .inl (.int, 6, .inl (ta 11)), .inl (.int, 6, .inl (ta 12)), .inl (.long, 5, .inr (.inl (tb 13))), .inl (.int, 5, .inl (ta 14)), .inl (.int, 5, .inl (ta 15)), .inl (.int, 5, .inl (ta 16)), .inr (0, [.ref 18, .ref 19, .ref 20, .int (tv 20)]), .inl (.int, 404, .inl (ta 20)), .inl (.int, 3, .inl (ta 21)), .inl (.int, 32, .inl (ta 22))]
def PVc (K : TKS) (r : PE ⊕ PT) (rv : Nat → Int32) : Prop := match r with
  | .inl e => rv 9 = nI e.1 ∧ (e.1 = 1 ∨ e.1 = 2) ∧ rv 1 = nI (K.2.1 e.2) ∧ ∃ t, t ≤ 400 ∧ rv 8 = nI t
  | .inr s => s.1 ≤ 400 ∧ rv 8 = nI s.1 ∧ rv 9 = nI 0 ∧ okT K s.1 ∧ match s.2 with
    | none => rv 10 = nI 0
    | some x => rv 10 = nI x.1 ∧ rv 11 = nI x.2 ∧ 3 ≤ x.1 ∧ x.1 ≤ 5
theorem PVc.t {K : TKS} {r : PE ⊕ PT} {rv : Nat → Int32} (h : PVc K r rv) : ∃ t, t ≤ 400 ∧ rv 8 = nI t := by
  cases r with
  | inl e => exact h.2.2.2
  | inr s => exact ⟨s.1, h.1, h.2.1⟩
theorem PVc.chg {K : TKS} {r : PE ⊕ PT} {rv rv' : Nat → Int32} (h : PVc K r rv) (e : ∀ k ∈ [1, 8, 9, 10, 11], rv' k = rv k) : PVc K r rv' := by
  have e1 := e 1 (by decide)
  have e8 := e 8 (by decide)
  have e9 := e 9 (by decide)
  have e10 := e 10 (by decide)
  have e11 := e 11 (by decide)
  cases r with
  | inl x => exact ⟨e9.trans h.1, h.2.1, e1.trans h.2.2.1, by rw [e8]; exact h.2.2.2⟩
  | inr s =>
    obtain ⟨t, w⟩ := s
    refine ⟨h.1, e8.trans h.2.1, e9.trans h.2.2.1, h.2.2.2.1, ?_⟩
    have h5 := h.2.2.2.2
    cases w with
    | none => exact e10.trans h5
    | some x => exact ⟨e10.trans h5.1, e11.trans h5.2.1, h5.2.2⟩
theorem PVc.no {K : TKS} {e : PE} {rv : Nat → Int32} (h : PVc K (.inl e) rv) : ¬ rv 9 = 0 := by
  rw [h.1]; exact nI_nz (by have := h.2.1; omega) (by have := h.2.1; omega)
theorem PVc.later {K : TKS} {e : PE} {rv : Nat → Int32} (h : PVc K (.inl e) rv) (x y : Int32) : PVc K (.inl e) (va_up (va_up rv 10 x) 11 y) := h
theorem PVc.note {K : TKS} {t : Nat} {w : Option PE} {rv : Nat → Int32} (h : PVc K (.inr (t, w)) rv) {k p : Nat} (hk : 3 ≤ k ∧ k ≤ 5) : PVc K (.inr (t, noteS w k p)) (if rv 10 = 0 then va_up (va_up rv 10 (nI k)) 11 (nI p) else rv) := by
  obtain ⟨h1, h2, h3, h4, h5⟩ := h
  cases w with
  | none =>
    have h5 : rv 10 = nI 0 := h5
    rw [if_pos (show rv 10 = 0 from h5)]
    exact ⟨h1, h2, h3, h4, rfl, rfl, hk.1, hk.2⟩
  | some x =>
    have h5 : rv 10 = nI x.1 ∧ rv 11 = nI x.2 ∧ 3 ≤ x.1 ∧ x.1 ≤ 5 := h5
    rw [if_neg (by rw [h5.1]; exact nI_nz (by omega) (by omega))]
    exact ⟨h1, h2, h3, h4, h5⟩
def ntV (rv : Nat → Int32) (k p : Int32) : Nat → Int32 := if rv 10 = 0 then va_up (va_up rv 10 k) 11 p else rv
theorem ntV_chg {rv : Nat → Int32} {k p : Int32} : chg [10, 11] rv (ntV rv k p) := by
  unfold ntV; split
  · exact (chg.up (by decide)).tr (chg.up (by decide))
  · exact chg.rf
theorem cc_noteLater (d : Nat) (rv : Nat → Int32) (ra : Nat → Nat → Int32) (rb : Nat → Nat → Int64) (rt : Value) (X : px_W) (k p : Int32) : Con mX3_noteLater d [.ref 0, .int k, .int p] (dW rv ra rb rt X) (fun r W' => W' = dW (ntV rv k p) ra rb rt X ∧ r = none) := by
  refine Con.of (by decide) (Nat.le_of_ble_eq_true rfl) ?_
  refine XG.blk tX3_noteLater_ok 0 2 (pc' := 4) (pl' := [some (.ref 0), some (.int k), some (.int p)]) (st' := [(.int (rv 10))]) (W1 := (dW rv ra rb rt X)) (bs := []) rfl rfl rfl ?_
  refine XG.br eX3_noteLater_4 (P := ¬ (rv 10) = 0) (r := []) rfl (tgt := 17) (by decide) (fun h4 => ?_) (fun h4 => ?_)
  · skip
    refine XS.vret eX3_noteLater_17 rfl ?_
    exact ⟨by unfold ntV; rw [if_neg h4], rfl⟩
  · skip
    have h4 := Decidable.not_not.mp h4
    refine XG.blk tX3_noteLater_ok 3 6 (pc' := 17) (pl' := [some (.ref 0), some (.int k), some (.int p)]) (st' := []) (W1 := (dW (va_up (va_up rv 10 k) 11 p) ra rb rt X)) (bs := []) rfl rfl rfl ?_
    refine XS.vret eX3_noteLater_17 rfl ?_
    exact ⟨by unfold ntV; rw [if_pos h4], rfl⟩
set_option maxHeartbeats 1000000 in
theorem cc_fail (d : Nat) (rv : Nat → Int32) (ra : Nat → Nat → Int32) (rb : Nat → Nat → Int64) (rt : Value) (X : px_W) (K : TKS) (hT : CTk K ra rb) (r : PE ⊕ PT) (hP : PVc K r rv) (k : Nat) (hk : k = 1 ∨ k = 2) : Con mX3_fail d [.ref 0, .int (nI k)] (dW rv ra rb rt X) (fun q W' => ∃ rv', W' = dW rv' ra rb rt X ∧ chg [1, 9] rv rv' ∧ PVc K (bd r (fun s => .inl (k, s.1))) rv' ∧ q = none) := by
  obtain ⟨t, ht, h8⟩ := hP.t
  refine Con.of (by decide) (Nat.le_of_ble_eq_true rfl) ?_
  refine XG.blk tX3_fail_ok 0 2 (pc' := 4) (pl' := [some (.ref 0), some (.int (nI k))]) (st' := [(.int (rv 9))]) (W1 := (dW rv ra rb rt X)) (bs := []) rfl rfl rfl ?_
  refine XG.br eX3_fail_4 (P := ¬ (rv 9) = 0) (r := []) rfl (tgt := 25) (by decide) (fun h4 => ?_) (fun h4 => ?_)
  · skip
    refine XS.vret eX3_fail_25 rfl ?_
    refine ⟨_, rfl, chg.rf, ?_, rfl⟩
    cases r with
    | inl e => exact hP
    | inr s => exact absurd hP.2.2.1 h4
  · skip
    have h4 := Decidable.not_not.mp h4
    have q1 : (rv 8) = (nI t) := h8
    have q2 : (nI t).toNatClampNeg = t := nI_clamp (by omega)
    refine XG.blk tX3_fail_ok 3 10 (pc' := 25) (pl' := [some (.ref 0), some (.int (nI k))]) (st' := []) (W1 := (dW (va_up (va_up rv 9 (nI k)) 1 ((ra 5) (rv 8).toNatClampNeg)) ra rb rt X)) (bs := [px_vb (rv 8) 402]) rfl rfl (by (try simp only [q1, q2]); exact (px_all (px_vbN (by omega) (by decide)) rfl)) ?_
    simp only [q1, q2]
    refine XS.vret eX3_fail_25 rfl ?_
    refine ⟨_, rfl, (chg.up (by decide)).tr (chg.up (by decide)), ?_, rfl⟩
    cases r with
    | inl e => exact absurd h4 hP.no
    | inr s =>
      have e : t = s.1 := (nI_eq (by omega) (by have := hP.1; omega)).mp (h8.symm.trans hP.2.1)
      subst e
      exact ⟨rfl, hk, (hT s.1 ht hP.2.2.2.1).2.1, s.1, ht, h8⟩
set_option maxHeartbeats 1000000 in
theorem cc_take (d : Nat) (rv : Nat → Int32) (ra : Nat → Nat → Int32) (rb : Nat → Nat → Int64) (rt : Value) (X : px_W) (K : TKS) (hT : CTk K ra rb) (r : PE ⊕ PT) (hP : PVc K r rv) (k : Nat) (hk : vk k) (hk0 : k ≠ 0) : Con mX3_take d [.ref 0, .int (nI (ck k))] (dW rv ra rb rt X) (fun q W' => ∃ rv', W' = dW rv' ra rb rt X ∧ chg [1, 8, 9] rv rv' ∧ PVc K (bd r (mstS K k)) rv' ∧ q = none) := by
  obtain ⟨t, ht, h8⟩ := hP.t
  refine Con.of (by decide) (Nat.le_of_ble_eq_true rfl) ?_
  refine XG.blk tX3_take_ok 0 2 (pc' := 4) (pl' := [some (.ref 0), some (.int (nI (ck k)))]) (st' := [(.int (rv 9))]) (W1 := (dW rv ra rb rt X)) (bs := []) rfl rfl rfl ?_
  refine XG.br eX3_take_4 (P := (rv 9) = 0) (r := []) rfl (tgt := 8) (by decide) (fun h4 => ?_) (fun h4 => ?_)
  · skip
    have q1 : (rv 8) = (nI t) := h8
    have q2 : (nI t).toNatClampNeg = t := nI_clamp (by omega)
    refine XG.blk tX3_take_ok 4 6 (pc' := 18) (pl' := [some (.ref 0), some (.int (nI (ck k)))]) (st' := [(.int (nI (ck k))), (.int ((ra 4) (rv 8).toNatClampNeg))]) (W1 := (dW rv ra rb rt X)) (bs := [px_vb (rv 8) 402]) rfl rfl (by (try simp only [q1, q2]); exact (px_all (px_vbN (by omega) (by decide)) rfl)) ?_
    simp only [q1, q2]
    refine XG.br eX3_take_18 (P := ¬ ((ra 4) t) = (nI (ck k))) (r := []) rfl (tgt := 44) (by decide) (fun h18 => ?_) (fun h18 => ?_)
    · skip
      have q3 : (rv 8) = (nI t) := h8
      have q4 : (nI t).toNatClampNeg = t := nI_clamp (by omega)
      refine XG.blk tX3_take_ok 22 7 (pc' := 55) (pl' := [some (.ref 0), some (.int (nI (ck k)))]) (st' := [(.int (nI (ck k))), (.int ((ra 4) (rv 8).toNatClampNeg)), (.ref 0)]) (W1 := (dW rv ra rb rt X)) (bs := [px_vb (rv 8) 402]) rfl rfl (by (try simp only [q3, q4]); exact (px_all (px_vbN (by omega) (by decide)) rfl)) ?_
      simp only [q3, q4]
      refine XG.br eX3_take_55 (P := ¬ ((ra 4) t) = (nI (ck k))) (r := [(.ref 0)]) rfl (tgt := 62) (by decide) (fun h55 => ?_) (fun h55 => ?_)
      · skip
        have q5 : (rv 8) = (nI t) := h8
        have q6 : (nI t).toNatClampNeg = t := nI_clamp (by omega)
        refine XG.blk tX3_take_ok 32 9 (pc' := 79) (pl' := [some (.ref 0), some (.int (nI (ck k)))]) (st' := []) (W1 := (dW (va_up (va_up rv 9 (nI 1)) 1 ((ra 5) (rv 8).toNatClampNeg)) ra rb rt X)) (bs := [px_vb (rv 8) 402]) rfl rfl (by (try simp only [q5, q6]); exact (px_all (px_vbN (by omega) (by decide)) rfl)) ?_
        simp only [q5, q6]
        refine XS.vret eX3_take_79 rfl ?_
        refine ⟨_, rfl, (chg.up (by decide)).tr (chg.up (by decide)), ?_, rfl⟩
        cases r with
        | inl e => exact absurd h4 hP.no
        | inr s =>
          have e : t = s.1 := (nI_eq (by omega) (by have := hP.1; omega)).mp (h8.symm.trans hP.2.1)
          subst e
          have hK := hT s.1 ht hP.2.2.2.1
          have hki := (nI_eq (a := ck (K.1 s.1)) (b := ck k) (by have := ck_lt hK.2.2.2.2.1; omega) (by have := ck_lt hk; omega)).trans (ck_inj hK.2.2.2.2.1 hk)
          rw [hK.1] at h18
          show PVc K (bd (if K.1 s.1 = k then advN s.1 else .inl (1, s.1)) (fun t => .inr (t, s.2))) _
          rw [if_neg (fun w => h18 (hki.mpr w))]
          exact ⟨rfl, Or.inl rfl, hK.2.1, s.1, ht, h8⟩
      · skip
        have h55 := Decidable.not_not.mp h55
        refine XG.blk tX3_take_ok 30 1 (pc' := 59) (pl' := [some (.ref 0), some (.int (nI (ck k)))]) (st' := [(.int (nI 2)), (.ref 0)]) (W1 := (dW rv ra rb rt X)) (bs := []) rfl rfl rfl ?_
        refine XG.goto eX3_take_59 (tgt := 63) (by decide) ?_
        have q7 : (rv 8) = (nI t) := h8
        have q8 : (nI t).toNatClampNeg = t := nI_clamp (by omega)
        refine XG.blk tX3_take_ok 33 8 (pc' := 79) (pl' := [some (.ref 0), some (.int (nI (ck k)))]) (st' := []) (W1 := (dW (va_up (va_up rv 9 (nI 2)) 1 ((ra 5) (rv 8).toNatClampNeg)) ra rb rt X)) (bs := [px_vb (rv 8) 402]) rfl rfl (by (try simp only [q7, q8]); exact (px_all (px_vbN (by omega) (by decide)) rfl)) ?_
        simp only [q7, q8]
        refine XS.vret eX3_take_79 rfl ?_
        exact absurd h55 h18
    · skip
      have h18 := Decidable.not_not.mp h18
      have q9 : (rv 8) = (nI t) := h8
      refine XG.blk tX3_take_ok 11 3 (pc' := 28) (pl' := [some (.ref 0), some (.int (nI (ck k)))]) (st' := [(.int (nI 400)), (.int (rv 8))]) (W1 := (dW rv ra rb rt X)) (bs := []) rfl rfl rfl ?_
      simp only [q9]
      refine XG.br eX3_take_28 (P := (nI 400) ≤ (nI t)) (r := []) rfl (tgt := 44) (by decide) (fun h28 => ?_) (fun h28 => ?_)
      · skip
        have g28 : 400 ≤ t := (nI_leI (a := 400) (b := t) (by omega) (by omega)).mp h28
        have q10 : (rv 8) = (nI t) := h8
        have q11 : (nI t).toNatClampNeg = t := nI_clamp (by omega)
        refine XG.blk tX3_take_ok 22 7 (pc' := 55) (pl' := [some (.ref 0), some (.int (nI (ck k)))]) (st' := [(.int (nI (ck k))), (.int ((ra 4) (rv 8).toNatClampNeg)), (.ref 0)]) (W1 := (dW rv ra rb rt X)) (bs := [px_vb (rv 8) 402]) rfl rfl (by (try simp only [q10, q11]); exact (px_all (px_vbN (by omega) (by decide)) rfl)) ?_
        simp only [q10, q11]
        refine XG.br eX3_take_55 (P := ¬ ((ra 4) t) = (nI (ck k))) (r := [(.ref 0)]) rfl (tgt := 62) (by decide) (fun h55 => ?_) (fun h55 => ?_)
        · skip
          have q12 : (rv 8) = (nI t) := h8
          have q13 : (nI t).toNatClampNeg = t := nI_clamp (by omega)
          refine XG.blk tX3_take_ok 32 9 (pc' := 79) (pl' := [some (.ref 0), some (.int (nI (ck k)))]) (st' := []) (W1 := (dW (va_up (va_up rv 9 (nI 1)) 1 ((ra 5) (rv 8).toNatClampNeg)) ra rb rt X)) (bs := [px_vb (rv 8) 402]) rfl rfl (by (try simp only [q12, q13]); exact (px_all (px_vbN (by omega) (by decide)) rfl)) ?_
          simp only [q12, q13]
          refine XS.vret eX3_take_79 rfl ?_
          exact absurd h18 h55
        · skip
          have h55 := Decidable.not_not.mp h55
          refine XG.blk tX3_take_ok 30 1 (pc' := 59) (pl' := [some (.ref 0), some (.int (nI (ck k)))]) (st' := [(.int (nI 2)), (.ref 0)]) (W1 := (dW rv ra rb rt X)) (bs := []) rfl rfl rfl ?_
          refine XG.goto eX3_take_59 (tgt := 63) (by decide) ?_
          have q14 : (rv 8) = (nI t) := h8
          have q15 : (nI t).toNatClampNeg = t := nI_clamp (by omega)
          refine XG.blk tX3_take_ok 33 8 (pc' := 79) (pl' := [some (.ref 0), some (.int (nI (ck k)))]) (st' := []) (W1 := (dW (va_up (va_up rv 9 (nI 2)) 1 ((ra 5) (rv 8).toNatClampNeg)) ra rb rt X)) (bs := [px_vb (rv 8) 402]) rfl rfl (by (try simp only [q14, q15]); exact (px_all (px_vbN (by omega) (by decide)) rfl)) ?_
          simp only [q14, q15]
          refine XS.vret eX3_take_79 rfl ?_
          refine ⟨_, rfl, (chg.up (by decide)).tr (chg.up (by decide)), ?_, rfl⟩
          cases r with
          | inl e => exact absurd h4 hP.no
          | inr s =>
            have e : t = s.1 := (nI_eq (by omega) (by have := hP.1; omega)).mp (h8.symm.trans hP.2.1)
            subst e
            have hK := hT s.1 ht hP.2.2.2.1
            have hki := (nI_eq (a := ck (K.1 s.1)) (b := ck k) (by have := ck_lt hK.2.2.2.2.1; omega) (by have := ck_lt hk; omega)).trans (ck_inj hK.2.2.2.2.1 hk)
            rw [hK.1] at h18
            show PVc K (bd (if K.1 s.1 = k then advN s.1 else .inl (1, s.1)) (fun t => .inr (t, s.2))) _
            rw [if_pos (hki.mp h18)]
            have e4 : s.1 = 400 := by omega
            unfold advN
            rw [if_pos e4]
            exact ⟨rfl, Or.inr rfl, by rw [← e4]; exact hK.2.1, s.1, ht, h8⟩
      · skip
        have g28 : ¬ 400 ≤ t := (fun z => h28 ((nI_leI (a := 400) (b := t) (by omega) (by omega)).mpr z))
        have q16 : (rv 8) = (nI t) := h8
        have q17 : ((nI t) + (nI 1)) = (nI (t + 1)) := px_eadd rfl rfl
        refine XG.blk tX3_take_ok 15 6 (pc' := 41) (pl' := [some (.ref 0), some (.int (nI (ck k)))]) (st' := []) (W1 := (dW (va_up rv 8 ((rv 8) + (nI 1))) ra rb rt X)) (bs := []) rfl rfl rfl ?_
        simp only [q16, q17]
        refine XG.goto eX3_take_41 (tgt := 79) (by decide) ?_
        refine XS.vret eX3_take_79 rfl ?_
        refine ⟨_, rfl, chg.up (by decide), ?_, rfl⟩
        cases r with
        | inl e => exact absurd h4 hP.no
        | inr s =>
          have e : t = s.1 := (nI_eq (by omega) (by have := hP.1; omega)).mp (h8.symm.trans hP.2.1)
          subst e
          have hK := hT s.1 ht hP.2.2.2.1
          have hki := (nI_eq (a := ck (K.1 s.1)) (b := ck k) (by have := ck_lt hK.2.2.2.2.1; omega) (by have := ck_lt hk; omega)).trans (ck_inj hK.2.2.2.2.1 hk)
          rw [hK.1] at h18
          show PVc K (bd (if K.1 s.1 = k then advN s.1 else .inl (1, s.1)) (fun t => .inr (t, s.2))) _
          rw [if_pos (hki.mp h18)]
          unfold advN
          rw [if_neg (by omega)]
          exact ⟨by show s.1 + 1 ≤ 400; omega, rfl, hP.2.2.1, hP.2.2.2.1.s (by rw [hki.mp h18]; exact hk0), hP.2.2.2.2⟩
  · skip
    refine XS.vret eX3_take_7 rfl ?_
    refine ⟨_, rfl, chg.rf, ?_, rfl⟩
    cases r with
    | inl e => exact hP
    | inr s => exact absurd hP.2.2.1 h4
def seeB (K : TKS) (r : PE ⊕ PT) (k : Nat) : Int32 := match r with
  | .inl _ => 0
  | .inr s => if K.1 s.1 = k then 1 else 0
set_option maxHeartbeats 1000000 in
theorem cc_sees (d : Nat) (rv : Nat → Int32) (ra : Nat → Nat → Int32) (rb : Nat → Nat → Int64) (rt : Value) (X : px_W) (K : TKS) (hT : CTk K ra rb) (r : PE ⊕ PT) (hP : PVc K r rv) (k : Nat) (hk : vk k) : Con mX3_sees d [.ref 0, .int (nI (ck k))] (dW rv ra rb rt X) (fun q W' => W' = dW rv ra rb rt X ∧ q = some (.int (seeB K r k))) := by
  obtain ⟨t, ht, h8⟩ := hP.t
  refine Con.of (by decide) (Nat.le_of_ble_eq_true rfl) ?_
  refine XG.blk tX3_sees_ok 0 2 (pc' := 4) (pl' := [some (.ref 0), some (.int (nI (ck k)))]) (st' := [(.int (rv 9))]) (W1 := (dW rv ra rb rt X)) (bs := []) rfl rfl rfl ?_
  refine XG.br eX3_sees_4 (P := ¬ (rv 9) = 0) (r := []) rfl (tgt := 24) (by decide) (fun h4 => ?_) (fun h4 => ?_)
  · skip
    refine XG.blk tX3_sees_ok 12 1 (pc' := 25) (pl' := [some (.ref 0), some (.int (nI (ck k)))]) (st' := [(.int (nI 0))]) (W1 := (dW rv ra rb rt X)) (bs := []) rfl rfl rfl ?_
    refine XS.iret eX3_sees_25 rfl (by decide) ?_
    refine ⟨rfl, ?_⟩
    cases r with
    | inl e => rfl
    | inr s => exact absurd hP.2.2.1 h4
  · skip
    have h4 := Decidable.not_not.mp h4
    have q1 : (rv 8) = (nI t) := h8
    have q2 : (nI t).toNatClampNeg = t := nI_clamp (by omega)
    refine XG.blk tX3_sees_ok 3 6 (pc' := 17) (pl' := [some (.ref 0), some (.int (nI (ck k)))]) (st' := [(.int (nI (ck k))), (.int ((ra 4) (rv 8).toNatClampNeg))]) (W1 := (dW rv ra rb rt X)) (bs := [px_vb (rv 8) 402]) rfl rfl (by (try simp only [q1, q2]); exact (px_all (px_vbN (by omega) (by decide)) rfl)) ?_
    simp only [q1, q2]
    refine XG.br eX3_sees_17 (P := ¬ ((ra 4) t) = (nI (ck k))) (r := []) rfl (tgt := 24) (by decide) (fun h17 => ?_) (fun h17 => ?_)
    · skip
      refine XG.blk tX3_sees_ok 12 1 (pc' := 25) (pl' := [some (.ref 0), some (.int (nI (ck k)))]) (st' := [(.int (nI 0))]) (W1 := (dW rv ra rb rt X)) (bs := []) rfl rfl rfl ?_
      refine XS.iret eX3_sees_25 rfl (by decide) ?_
      refine ⟨rfl, ?_⟩
      cases r with
      | inl e => exact absurd h4 hP.no
      | inr s =>
        have e : t = s.1 := (nI_eq (by omega) (by have := hP.1; omega)).mp (h8.symm.trans hP.2.1)
        subst e
        have hK := hT s.1 ht hP.2.2.2.1
        have hki := (nI_eq (a := ck (K.1 s.1)) (b := ck k) (by have := ck_lt hK.2.2.2.2.1; omega) (by have := ck_lt hk; omega)).trans (ck_inj hK.2.2.2.2.1 hk)
        rw [hK.1] at h17
        exact congrArg (fun z => some (Value.int z)) (if_neg (fun w => h17 (hki.mpr w))).symm
    · skip
      have h17 := Decidable.not_not.mp h17
      refine XG.blk tX3_sees_ok 10 1 (pc' := 21) (pl' := [some (.ref 0), some (.int (nI (ck k)))]) (st' := [(.int (nI 1))]) (W1 := (dW rv ra rb rt X)) (bs := []) rfl rfl rfl ?_
      refine XG.goto eX3_sees_21 (tgt := 25) (by decide) ?_
      refine XS.iret eX3_sees_25 rfl (by decide) ?_
      refine ⟨rfl, ?_⟩
      cases r with
      | inl e => exact absurd h4 hP.no
      | inr s =>
        have e : t = s.1 := (nI_eq (by omega) (by have := hP.1; omega)).mp (h8.symm.trans hP.2.1)
        subst e
        have hK := hT s.1 ht hP.2.2.2.1
        have hki := (nI_eq (a := ck (K.1 s.1)) (b := ck k) (by have := ck_lt hK.2.2.2.2.1; omega) (by have := ck_lt hk; omega)).trans (ck_inj hK.2.2.2.2.1 hk)
        rw [hK.1] at h17
        exact congrArg (fun z => some (Value.int z)) (if_pos (hki.mp h17)).symm
