/-! the reference: sleepers, crossers -/
theorem row_up {f : Nat → Int32} {h : Nat → Nat} {p n : Nat} {x : Int32} {y : Nat} (hf : ∀ i, i < n → f (p + i) = nI (h i)) (hx : x = nI y) : ∀ i, i < n + 1 → upd f (p + n) x (p + i) = nI (va_up h n y i) := by
  intro i hi
  by_cases e : i = n
  · subst e; rw [pk_us, hx]; unfold va_up; rw [if_pos rfl]
  · rw [pk_un (by omega), hf i (by omega)]; unfold va_up; rw [if_neg e]
theorem NmR_app {nl : NmL} {v v' : Nat → Int32} {a a' : Nat → Nat → Int32} {b b' : Nat → Nat → Int64} (h : NmR nl v a b) (hl : nl.length ≤ 10) {x : List Nat} {z : Option Nat} (hx : vNm x) (hv : v' 20 = nI (nl.length + 1)) {y : Int32} (ha : a' 22 = upd (a 22) nl.length y) (hb : b' 21 = vp_updL (b 21) nl.length (lN (enc 27 x))) (hy : y = (match z with | some j => nI j | none => -1)) (hz : ∀ j, z = some j → j < 6) : NmR (nl ++ [(x, z)]) v' a' b' := by
  have hlen : (nl ++ [(x, z)]).length = nl.length + 1 := by simp
  refine ⟨by rw [hlen]; exact hv, by omega, fun i e he => ?_⟩
  by_cases hi : i < nl.length
  · rw [List.getElem?_append_left hi] at he
    have h1 := h.2.2 i e he
    rw [ha, hb]
    refine ⟨h1.1, ?_, ?_, h1.2.2.2⟩
    · rw [← h1.2.1]; unfold vp_updL; first | exact if_neg (by omega) | (split <;> first | rfl | omega)
    · rw [pk_un (by omega)]; exact h1.2.2.1
  · rw [List.getElem?_append_right (by omega)] at he
    have hi2 : i = nl.length := by
      have h9 := (List.getElem?_eq_some_iff.mp he).1
      simp at h9; omega
    subst hi2
    rw [Nat.sub_self] at he
    cases he
    refine ⟨hx, ?_, ?_, hz⟩
    · rw [hb]; unfold vp_updL; first | exact if_pos rfl | (split <;> first | rfl | omega)
    · rw [ha, pk_us]; exact hy
theorem chg20 {v : Nat → Int32} {x : Int32} : ∀ k ∈ [11, 13, 14, 15, 16], va_up v 20 x k = v k := fun k hk => if_neg (by revert k; decide)
set_option maxHeartbeats 400000 in
theorem con_tellSleeper (d : Nat) (v : Nat → Int32) (a : Nat → Nat → Int32) (b : Nat → Nat → Int64) (K : TKS) (hT : Tok K a b) (sd : Nat) (hsd : v 19 = nI sd) (hsd2 : sd < 2) (S : SD) (s : PT) (h : PVr K (.inr s) v) (hR : RD S sd s.1 v a b) (hn : S.1 24 < 6) (hd : 4 ≤ d) : Con mX9_tellSleeper d [.ref 0] (mW v a b) (fun q W' => ∃ v' a' b', W' = mW v' a' b' ∧ FrR sd v v' a a' b b' ∧ RQ K sd (slT K s S) v' a' b' ∧ q = none) := by
  obtain ⟨ht, h11⟩ : s.1 ≤ 400 ∧ v 11 = nI s.1 := ⟨h.1, h.2.1⟩
  have h24 := hR.1 24 (by decide)
  have hN := hR.2.2.2.2.1.1
  have hNl := hR.2.2.2.2.1.2.1
  have hB := hR.2.1
  refine Con.of (by decide) (Nat.le_of_ble_eq_true rfl) ?_
  have q1 : (v 19) = (nI sd) := hsd
  have q2 : ((nI 6) * (nI sd)) = (nI (6 * sd)) := px_emul rfl rfl
  have q3 : (nI sd).toNatClampNeg = sd := nI_clamp (by omega)
  have q4 : ((a 24) sd) = (nI (S.1 24)) := h24
  have q5 : ((nI (6 * sd)) + (nI (S.1 24))) = (nI ((6 * sd) + (S.1 24))) := px_eadd rfl rfl
  refine XG.blk tX9_tellSleeper_ok 0 12 (pc' := 19) (pl' := [some (.ref 0), some (.int (((nI 6) * (v 19)) + ((a 24) (v 19).toNatClampNeg))), none]) (st' := [(.ref 0)]) (W1 := (mW v a b)) (bs := [px_vb (v 19) 2]) rfl rfl (by (try simp only [q1, q2, q3, q4, q5]); exact (px_all (px_vbN (by omega) (by decide)) rfl)) ?_
  simp only [q1, q2, q3, q4, q5]
  refine XG.callV0 eX9_tellSleeper_19 kl_X9_298 (con_named (d - 1) v a b K hT (.inr s) h S.2.2.1 hR.2.2.2.2.1.1 (by omega)) (px_fitS (by omega)) rfl rfl rfl (Nat.le_of_ble_eq_true rfl) (fun r9 W9 hp9 hl9 => ?_)
  obtain ⟨v1, rfl, hc1, hP1, rfl⟩ := hp9
  rw [h11]
  refine XG.blk tX9_tellSleeper_ok 13 7 (pc' := 32) (pl' := [some (.ref 0), some (.int (nI ((6 * sd) + (S.1 24)))), some (.int (nI s.1))]) (st' := [(.int (nI 99)), (.int (nI 0)), (.ref 0), (.int (nI ((6 * sd) + (S.1 24)))), (.ref 12)]) (W1 := (mW v1 a b)) (bs := []) rfl rfl rfl ?_
  refine XG.callV0 eX9_tellSleeper_32 kl_X9_273 (con_bounded (d - 1) v1 a b K hT (bd (.inr s) (nameS K S.2.2.1)) hP1 0 99 (by omega) (by omega) (by omega)) (px_fitS (by omega)) rfl rfl rfl (Nat.le_of_ble_eq_true rfl) (fun r9 W9 hp9 hl9 => ?_)
  obtain ⟨v2, x2, rfl, hc2, hP2, rfl, hx2⟩ := hp9
  have q6 : (nI ((6 * sd) + (S.1 24))).toNatClampNeg = ((6 * sd) + (S.1 24)) := nI_clamp (by omega)
  refine XG.blk tX9_tellSleeper_ok 21 7 (pc' := 45) (pl' := [some (.ref 0), some (.int (nI ((6 * sd) + (S.1 24)))), some (.int (nI s.1))]) (st' := [(.int (nI 9)), (.int (nI 0)), (.ref 0), (.int (nI ((6 * sd) + (S.1 24)))), (.ref 13)]) (W1 := (mW v2 (va_up a 25 (upd (a 25) (nI ((6 * sd) + (S.1 24))).toNatClampNeg x2)) b)) (bs := [px_vb (nI ((6 * sd) + (S.1 24))) 12]) rfl rfl (by (try simp only [q6]); exact (px_all (px_vbN (by omega) (by decide)) rfl)) ?_
  simp only [q6]
  refine XG.callV0 eX9_tellSleeper_45 kl_X9_273 (con_bounded (d - 1) v2 (va_up a 25 (upd (a 25) ((6 * sd) + (S.1 24)) x2)) b K hT (bd (bd (.inr s) (nameS K S.2.2.1)) (bndS K 0 99)) hP2 0 9 (by omega) (by omega) (by omega)) (px_fitS (by omega)) rfl rfl rfl (Nat.le_of_ble_eq_true rfl) (fun r9 W9 hp9 hl9 => ?_)
  obtain ⟨v3, x3, rfl, hc3, hP3, rfl, hx3⟩ := hp9
  have q7 : (nI ((6 * sd) + (S.1 24))).toNatClampNeg = ((6 * sd) + (S.1 24)) := nI_clamp (by omega)
  refine XG.blk tX9_tellSleeper_ok 29 7 (pc' := 58) (pl' := [some (.ref 0), some (.int (nI ((6 * sd) + (S.1 24)))), some (.int (nI s.1))]) (st' := [(.int (nI 9)), (.int (nI 0)), (.ref 0), (.int (nI ((6 * sd) + (S.1 24)))), (.ref 14)]) (W1 := (mW v3 (va_up (va_up a 25 (upd (a 25) ((6 * sd) + (S.1 24)) x2)) 26 (upd (a 26) (nI ((6 * sd) + (S.1 24))).toNatClampNeg x3)) b)) (bs := [px_vb (nI ((6 * sd) + (S.1 24))) 12]) rfl rfl (by (try simp only [q7]); exact (px_all (px_vbN (by omega) (by decide)) rfl)) ?_
  simp only [q7]
  refine XG.callV0 eX9_tellSleeper_58 kl_X9_273 (con_bounded (d - 1) v3 (va_up (va_up a 25 (upd (a 25) ((6 * sd) + (S.1 24)) x2)) 26 (upd (a 26) ((6 * sd) + (S.1 24)) x3)) b K hT (bd (bd (bd (.inr s) (nameS K S.2.2.1)) (bndS K 0 99)) (bndS K 0 9)) hP3 0 9 (by omega) (by omega) (by omega)) (px_fitS (by omega)) rfl rfl rfl (Nat.le_of_ble_eq_true rfl) (fun r9 W9 hp9 hl9 => ?_)
  obtain ⟨v4, x4, rfl, hc4, hP4, rfl, hx4⟩ := hp9
  have q8 : (nI ((6 * sd) + (S.1 24))).toNatClampNeg = ((6 * sd) + (S.1 24)) := nI_clamp (by omega)
  refine XG.blk tX9_tellSleeper_ok 37 7 (pc' := 70) (pl' := [some (.ref 0), some (.int (nI ((6 * sd) + (S.1 24)))), some (.int (nI s.1))]) (st' := [(.int (nI 4)), (.int (nI 0)), (.ref 0), (.int (nI ((6 * sd) + (S.1 24)))), (.ref 15)]) (W1 := (mW v4 (va_up (va_up (va_up a 25 (upd (a 25) ((6 * sd) + (S.1 24)) x2)) 26 (upd (a 26) ((6 * sd) + (S.1 24)) x3)) 27 (upd (a 27) (nI ((6 * sd) + (S.1 24))).toNatClampNeg x4)) b)) (bs := [px_vb (nI ((6 * sd) + (S.1 24))) 12]) rfl rfl (by (try simp only [q8]); exact (px_all (px_vbN (by omega) (by decide)) rfl)) ?_
  simp only [q8]
  refine XG.callV0 eX9_tellSleeper_70 kl_X9_273 (con_bounded (d - 1) v4 (va_up (va_up (va_up a 25 (upd (a 25) ((6 * sd) + (S.1 24)) x2)) 26 (upd (a 26) ((6 * sd) + (S.1 24)) x3)) 27 (upd (a 27) ((6 * sd) + (S.1 24)) x4)) b K hT (bd (bd (bd (bd (.inr s) (nameS K S.2.2.1)) (bndS K 0 99)) (bndS K 0 9)) (bndS K 0 9)) hP4 0 4 (by omega) (by omega) (by omega)) (px_fitS (by omega)) rfl rfl rfl (Nat.le_of_ble_eq_true rfl) (fun r9 W9 hp9 hl9 => ?_)
  obtain ⟨v5, x5, rfl, hc5, hP5, rfl, hx5⟩ := hp9
  have q9 : (nI ((6 * sd) + (S.1 24))).toNatClampNeg = ((6 * sd) + (S.1 24)) := nI_clamp (by omega)
  have q10 : (v5 19) = (nI sd) := (hc5 19 (by decide)).trans ((hc4 19 (by decide)).trans ((hc3 19 (by decide)).trans ((hc2 19 (by decide)).trans ((hc1 19 (by decide)).trans hsd))))
  have q11 : (nI sd).toNatClampNeg = sd := nI_clamp (by omega)
  have q12 : ((a 24) sd) = (nI (S.1 24)) := h24
  refine XG.blk tX9_tellSleeper_ok 45 8 (pc' := 85) (pl' := [some (.ref 0), some (.int (nI ((6 * sd) + (S.1 24)))), some (.int (nI s.1))]) (st' := [(.int ((a 24) (v5 19).toNatClampNeg)), (.int (nI s.1)), (.ref 0)]) (W1 := (mW v5 (va_up (va_up (va_up (va_up a 25 (upd (a 25) ((6 * sd) + (S.1 24)) x2)) 26 (upd (a 26) ((6 * sd) + (S.1 24)) x3)) 27 (upd (a 27) ((6 * sd) + (S.1 24)) x4)) 28 (upd (a 28) (nI ((6 * sd) + (S.1 24))).toNatClampNeg x5)) b)) (bs := [px_vb (nI ((6 * sd) + (S.1 24))) 12, px_vb (v5 19) 2]) rfl rfl (by (try simp only [q9, q10, q11, q12]); exact (px_all (px_vbN (by omega) (by decide)) (px_all (px_vbN (by omega) (by decide)) rfl))) ?_
  simp only [q9, q10, q11, q12]
  refine XG.callV0 eX9_tellSleeper_85 kl_X9_302 (con_ends (d - 1) v5 (va_up (va_up (va_up (va_up a 25 (upd (a 25) ((6 * sd) + (S.1 24)) x2)) 26 (upd (a 26) ((6 * sd) + (S.1 24)) x3)) 27 (upd (a 27) ((6 * sd) + (S.1 24)) x4)) 28 (upd (a 28) ((6 * sd) + (S.1 24)) x5)) b K hT (bd (bd (bd (bd (bd (.inr s) (nameS K S.2.2.1)) (bndS K 0 99)) (bndS K 0 9)) (bndS K 0 9)) (bndS K 0 4)) hP5 S.2.2.1 ⟨((hc5 20 (by decide)).trans ((hc4 20 (by decide)).trans ((hc3 20 (by decide)).trans ((hc2 20 (by decide)).trans ((hc1 20 (by decide))))))).trans hN.1, hN.2.1, hN.2.2⟩ (by omega) s.1 (by omega) (nI (S.1 24)) (by omega)) (px_fitS (by omega)) rfl rfl rfl (Nat.le_of_ble_eq_true rfl) (fun r9 W9 hp9 hl9 => ?_)
  obtain ⟨rfl, v6, hc6, hP6, hW6⟩ := hp9
  have hvc := (((((hc1.mono (S' := [11, 13, 14, 15, 16]) (by decide)).tr hc2).tr hc3).tr hc4).tr hc5).tr (hc6.mono (by decide))
  have hfa : FrR sd v v a (va_up (va_up (va_up (va_up a 25 (upd (a 25) ((6 * sd) + (S.1 24)) x2)) 26 (upd (a 26) ((6 * sd) + (S.1 24)) x3)) 27 (upd (a 27) ((6 * sd) + (S.1 24)) x4)) 28 (upd (a 28) ((6 * sd) + (S.1 24)) x5)) b b := (FrR.set 25 (6 * sd + S.1 24) x2 (by rw [show strd 25 = 6 from by decide]; omega) (by rw [show strd 25 = 6 from by decide]; omega)).tr ((FrR.set 26 (6 * sd + S.1 24) x3 (by rw [show strd 26 = 6 from by decide]; omega) (by rw [show strd 26 = 6 from by decide]; omega)).tr ((FrR.set 27 (6 * sd + S.1 24) x4 (by rw [show strd 27 = 6 from by decide]; omega) (by rw [show strd 27 = 6 from by decide]; omega)).tr (FrR.set 28 (6 * sd + S.1 24) x5 (by rw [show strd 28 = 6 from by decide]; omega) (by rw [show strd 28 = 6 from by decide]; omega))))
  rcases hW6 with ⟨e, hr6, rfl⟩ | ⟨s7, hr6, rfl⟩
  · rw [hr6] at hP6
    have hx13 : ¬ v6 13 = 0 := by rw [hP6.2.1]; exact nI_nz (by have := hP6.1; omega) (by have := hP6.1; omega)
    refine XG.blk tX9_tellSleeper_ok 54 2 (pc' := 92) (pl' := [some (.ref 0), some (.int (nI ((6 * sd) + (S.1 24)))), some (.int (nI s.1))]) (st' := [(.int (v6 13))]) (W1 := (mW v6 (va_up (va_up (va_up (va_up a 25 (upd (a 25) ((6 * sd) + (S.1 24)) x2)) 26 (upd (a 26) ((6 * sd) + (S.1 24)) x3)) 27 (upd (a 27) ((6 * sd) + (S.1 24)) x4)) 28 (upd (a 28) ((6 * sd) + (S.1 24)) x5)) b)) (bs := []) rfl rfl rfl ?_
    refine XG.br eX9_tellSleeper_92 (P := ¬ (v6 13) = 0) (r := []) rfl (tgt := 108) (by decide) (fun h92 => ?_) (fun h92 => ?_)
    · skip
      refine XS.vret eX9_tellSleeper_108 rfl ?_
      refine ⟨_, _, _, rfl, ⟨hvc.mono (by decide), hfa.2.1, chg.rf⟩, ?_, rfl⟩
      show RQ K sd (bd (bd (bd (bd (bd (bd (bd (.inr s) (nameS K S.2.2.1)) (bndS K 0 99)) (bndS K 0 9)) (bndS K 0 9)) (bndS K 0 4)) (mstS K 4)) _) _ _ _
      rw [hr6]
      exact hP6
    · exfalso
      have h92 := Decidable.not_not.mp h92
      first | exact hx13 h92 | exact h92 hx13
  · rw [hr6] at hP6
    have hx13 : v6 13 = 0 := hP6.2.2.1
    refine XG.blk tX9_tellSleeper_ok 54 2 (pc' := 92) (pl' := [some (.ref 0), some (.int (nI ((6 * sd) + (S.1 24)))), some (.int (nI s.1))]) (st' := [(.int (v6 13))]) (W1 := (mW (va_up v6 20 (nI (S.2.2.1.length + 1))) (va_up (va_up (va_up (va_up (va_up a 25 (upd (a 25) ((6 * sd) + (S.1 24)) x2)) 26 (upd (a 26) ((6 * sd) + (S.1 24)) x3)) 27 (upd (a 27) ((6 * sd) + (S.1 24)) x4)) 28 (upd (a 28) ((6 * sd) + (S.1 24)) x5)) 22 (upd (a 22) S.2.2.1.length (nI (S.1 24)))) (va_up b 21 (vp_updL (b 21) S.2.2.1.length (b 8 s.1))))) (bs := []) rfl rfl rfl ?_
    refine XG.br eX9_tellSleeper_92 (P := ¬ (v6 13) = 0) (r := []) rfl (tgt := 108) (by decide) (fun h92 => ?_) (fun h92 => ?_)
    · exfalso
      first | exact hx13 h92 | exact h92 hx13
    · skip
      have h92 := Decidable.not_not.mp h92
      have q13 : (v6 19) = (nI sd) := (hc6 19 (by decide)).trans ((hc5 19 (by decide)).trans ((hc4 19 (by decide)).trans ((hc3 19 (by decide)).trans ((hc2 19 (by decide)).trans ((hc1 19 (by decide)).trans hsd)))))
      have q14 : (nI sd).toNatClampNeg = sd := nI_clamp (by omega)
      have q15 : ((a 24) sd) = (nI (S.1 24)) := h24
      have q16 : ((nI (S.1 24)) + (nI 1)) = (nI ((S.1 24) + 1)) := px_eadd rfl rfl
      refine XG.blk tX9_tellSleeper_ok 57 9 (pc' := 108) (pl' := [some (.ref 0), some (.int (nI ((6 * sd) + (S.1 24)))), some (.int (nI s.1))]) (st' := []) (W1 := (mW (va_up v6 20 (nI (S.2.2.1.length + 1))) (va_up (va_up (va_up (va_up (va_up (va_up a 25 (upd (a 25) ((6 * sd) + (S.1 24)) x2)) 26 (upd (a 26) ((6 * sd) + (S.1 24)) x3)) 27 (upd (a 27) ((6 * sd) + (S.1 24)) x4)) 28 (upd (a 28) ((6 * sd) + (S.1 24)) x5)) 22 (upd (a 22) S.2.2.1.length (nI (S.1 24)))) 24 (upd (a 24) (v6 19).toNatClampNeg (((a 24) (v6 19).toNatClampNeg) + (nI 1)))) (va_up b 21 (vp_updL (b 21) S.2.2.1.length (b 8 s.1))))) (bs := [px_vb (v6 19) 2, px_vb (v6 19) 2]) rfl rfl (by (try simp only [q13, q14, q15, q16]); exact (px_all (px_vbN (by omega) (by decide)) (px_all (px_vbN (by omega) (by decide)) rfl))) ?_
      simp only [q13, q14, q15, q16]
      refine XS.vret eX9_tellSleeper_108 rfl ?_
      obtain ⟨s6, e6, m7⟩ := bd_inrE hr6
      obtain ⟨s5, e5, m6⟩ := bd_inrE e6
      obtain ⟨s4, e4, m5⟩ := bd_inrE e5
      obtain ⟨s3, e3, m4⟩ := bd_inrE e4
      obtain ⟨s2, e2, m3⟩ := bd_inrE e3
      obtain ⟨p1, -, p2⟩ := nameS_inr e2
      have p3 := (bndS_inr m3).2.2
      have p4 := (bndS_inr m4).2.2
      have p5 := (bndS_inr m5).2.2
      have p6 := (bndS_inr m6).2.2
      obtain ⟨-, -, rfl⟩ := mstS_inr m7
      have x2v : x2 = nI (K.2.2.1 (s.1 + 1)) := by rw [hx2 s2 s3 e2 m3, show s2.1 = s.1 + 1 by omega]
      have x3v : x3 = nI (K.2.2.1 (s.1 + 2)) := by rw [hx3 s3 s4 e3 m4, show s3.1 = s.1 + 2 by omega]
      have x4v : x4 = nI (K.2.2.1 (s.1 + 3)) := by rw [hx4 s4 s5 e4 m5, show s4.1 = s.1 + 3 by omega]
      have x5v : x5 = nI (K.2.2.1 (s.1 + 4)) := by rw [hx5 s5 s6 e5 m6, show s5.1 = s.1 + 4 by omega]
      have hK := hT s.1 h.1 h.2.2.2.1
      have h8 := hK.2.2.2.1 p1
      refine ⟨_, _, _, rfl, ⟨(hvc.mono (by decide)).tr (chg.up (by decide)), ?_, chg.up (by decide)⟩, ?_, rfl⟩
      · exact (hfa.tr ((FrR.n22 _).tr (FrR.set 24 sd (nI (S.1 24 + 1)) (by rw [show strd 24 = 1 from by decide]; omega) (by rw [show strd 24 = 1 from by decide]; omega)))).2.1
      show RQ K sd (bd (bd (bd (bd (bd (bd (bd (.inr s) (nameS K S.2.2.1)) (bndS K 0 99)) (bndS K 0 9)) (bndS K 0 9)) (bndS K 0 4)) (mstS K 4)) _) _ _ _
      rw [hr6]
      refine ⟨hP6.chg chg20, ?_, ?_, ?_, ?_, ⟨?_, ?_, ?_⟩, ?_, ?_, ?_⟩
      · intro k hk
        by_cases e : k = 24
        · subst e; show upd (a 24) sd _ sd = nI (va_up S.1 24 _ 24); rw [pk_us]; rfl
        · have h9 := hR.1 k hk
          show _ = nI (va_up S.1 24 (S.1 24 + 1) k)
          rw [show va_up S.1 24 (S.1 24 + 1) k = S.1 k from if_neg e, ← h9]
          simp only [List.mem_cons, List.not_mem_nil, or_false] at hk
          rcases hk with rfl | rfl | rfl | rfl | rfl | rfl | rfl <;> first | rfl | exact absurd rfl e
      · refine ⟨?_, hB.2.1, hB.2.2⟩
        show S.1 24 + 1 ≤ 6; omega
      
      · intro i hi k hk
        have hi : i < S.1 24 + 1 := hi
        simp only [List.mem_cons, List.not_mem_nil, or_false] at hk
        rcases hk with rfl | rfl | rfl | rfl
        · exact row_up (fun i hi => hR.2.2.1 i hi 25 (by decide)) x2v i hi
        · exact row_up (fun i hi => hR.2.2.1 i hi 26 (by decide)) x3v i hi
        · exact row_up (fun i hi => hR.2.2.1 i hi 27 (by decide)) x4v i hi
        · exact row_up (fun i hi => hR.2.2.1 i hi 28 (by decide)) x5v i hi
      · intro i hi k hk
        have h9 := hR.2.2.2.1 i hi k hk
        simp only [List.mem_cons, List.not_mem_nil, or_false] at hk
        rcases hk with rfl | rfl | rfl <;> exact h9
      · exact NmR_app hN (by omega) (z := some (S.1 24)) h8.2 rfl rfl (by rw [← h8.1]; rfl) rfl (fun j hj => by cases hj; exact hn)
      · show (S.2.2.1 ++ [_]).length = S.1 24 + 1 + S.1 31
        rw [List.length_append, hNl]; show _ + 1 = _; omega
      · intro e he j hj
        rcases List.mem_append.mp he with h9 | h9
        · have := hR.2.2.2.2.1.2.2 e h9 j hj
          show j < S.1 24 + 1; omega
        · simp only [List.mem_singleton] at h9; subst h9; cases hj; show S.1 24 < S.1 24 + 1; omega
      · exact hR.2.2.2.2.2.1
      · exact CdR_chg (v := v) (a := a) (by show s.1 ≤ s6.1 + 1; omega) ⟨hvc 40 (by decide), hvc 46 (by decide)⟩ (by intro k hk; simp only [List.mem_cons, List.not_mem_nil, or_false] at hk; rcases hk with rfl | rfl | rfl | rfl | rfl | rfl | rfl | rfl | rfl <;> rfl) hR.2.2.2.2.2.2.1
      · exact (hvc 12 (by decide)).trans hR.2.2.2.2.2.2.2
set_option maxHeartbeats 400000 in
theorem con_tellCrosser (d : Nat) (v : Nat → Int32) (a : Nat → Nat → Int32) (b : Nat → Nat → Int64) (K : TKS) (hT : Tok K a b) (sd : Nat) (hsd : v 19 = nI sd) (hsd2 : sd < 2) (S : SD) (s : PT) (h : PVr K (.inr s) v) (hR : RD S sd s.1 v a b) (hn : S.1 31 < 5) (hd : 4 ≤ d) : Con mX9_tellCrosser d [.ref 0] (mW v a b) (fun q W' => ∃ v' a' b', W' = mW v' a' b' ∧ FrR sd v v' a a' b b' ∧ RQ K sd (crT K s S) v' a' b' ∧ q = none) := by
  obtain ⟨ht, h11⟩ : s.1 ≤ 400 ∧ v 11 = nI s.1 := ⟨h.1, h.2.1⟩
  have h24 := hR.1 31 (by decide)
  have hN := hR.2.2.2.2.1.1
  have hNl := hR.2.2.2.2.1.2.1
  have hB := hR.2.1
  refine Con.of (by decide) (Nat.le_of_ble_eq_true rfl) ?_
  have q1 : (v 19) = (nI sd) := hsd
  have q2 : ((nI 5) * (nI sd)) = (nI (5 * sd)) := px_emul rfl rfl
  have q3 : (nI sd).toNatClampNeg = sd := nI_clamp (by omega)
  have q4 : ((a 31) sd) = (nI (S.1 31)) := h24
  have q5 : ((nI (5 * sd)) + (nI (S.1 31))) = (nI ((5 * sd) + (S.1 31))) := px_eadd rfl rfl
  refine XG.blk tX9_tellCrosser_ok 0 12 (pc' := 18) (pl' := [some (.ref 0), some (.int (((nI 5) * (v 19)) + ((a 31) (v 19).toNatClampNeg))), none]) (st' := [(.ref 0)]) (W1 := (mW v a b)) (bs := [px_vb (v 19) 2]) rfl rfl (by (try simp only [q1, q2, q3, q4, q5]); exact (px_all (px_vbN (by omega) (by decide)) rfl)) ?_
  simp only [q1, q2, q3, q4, q5]
  refine XG.callV0 eX9_tellCrosser_18 kl_X9_298 (con_named (d - 1) v a b K hT (.inr s) h S.2.2.1 hR.2.2.2.2.1.1 (by omega)) (px_fitS (by omega)) rfl rfl rfl (Nat.le_of_ble_eq_true rfl) (fun r9 W9 hp9 hl9 => ?_)
  obtain ⟨v1, rfl, hc1, hP1, rfl⟩ := hp9
  rw [h11]
  refine XG.blk tX9_tellCrosser_ok 13 7 (pc' := 31) (pl' := [some (.ref 0), some (.int (nI ((5 * sd) + (S.1 31)))), some (.int (nI s.1))]) (st' := [(.int (nI 99)), (.int (nI 0)), (.ref 0), (.int (nI ((5 * sd) + (S.1 31)))), (.ref 19)]) (W1 := (mW v1 a b)) (bs := []) rfl rfl rfl ?_
  refine XG.callV0 eX9_tellCrosser_31 kl_X9_273 (con_bounded (d - 1) v1 a b K hT (bd (.inr s) (nameS K S.2.2.1)) hP1 0 99 (by omega) (by omega) (by omega)) (px_fitS (by omega)) rfl rfl rfl (Nat.le_of_ble_eq_true rfl) (fun r9 W9 hp9 hl9 => ?_)
  obtain ⟨v2, x2, rfl, hc2, hP2, rfl, hx2⟩ := hp9
  have q6 : (nI ((5 * sd) + (S.1 31))).toNatClampNeg = ((5 * sd) + (S.1 31)) := nI_clamp (by omega)
  refine XG.blk tX9_tellCrosser_ok 21 7 (pc' := 44) (pl' := [some (.ref 0), some (.int (nI ((5 * sd) + (S.1 31)))), some (.int (nI s.1))]) (st' := [(.int (nI 9)), (.int (nI 0)), (.ref 0), (.int (nI ((5 * sd) + (S.1 31)))), (.ref 20)]) (W1 := (mW v2 (va_up a 32 (upd (a 32) (nI ((5 * sd) + (S.1 31))).toNatClampNeg x2)) b)) (bs := [px_vb (nI ((5 * sd) + (S.1 31))) 10]) rfl rfl (by (try simp only [q6]); exact (px_all (px_vbN (by omega) (by decide)) rfl)) ?_
  simp only [q6]
  refine XG.callV0 eX9_tellCrosser_44 kl_X9_273 (con_bounded (d - 1) v2 (va_up a 32 (upd (a 32) ((5 * sd) + (S.1 31)) x2)) b K hT (bd (bd (.inr s) (nameS K S.2.2.1)) (bndS K 0 99)) hP2 0 9 (by omega) (by omega) (by omega)) (px_fitS (by omega)) rfl rfl rfl (Nat.le_of_ble_eq_true rfl) (fun r9 W9 hp9 hl9 => ?_)
  obtain ⟨v3, x3, rfl, hc3, hP3, rfl, hx3⟩ := hp9
  have q7 : (nI ((5 * sd) + (S.1 31))).toNatClampNeg = ((5 * sd) + (S.1 31)) := nI_clamp (by omega)
  refine XG.blk tX9_tellCrosser_ok 29 7 (pc' := 57) (pl' := [some (.ref 0), some (.int (nI ((5 * sd) + (S.1 31)))), some (.int (nI s.1))]) (st' := [(.int (nI 99)), (.int (nI 0)), (.ref 0), (.int (nI ((5 * sd) + (S.1 31)))), (.ref 21)]) (W1 := (mW v3 (va_up (va_up a 32 (upd (a 32) ((5 * sd) + (S.1 31)) x2)) 33 (upd (a 33) (nI ((5 * sd) + (S.1 31))).toNatClampNeg x3)) b)) (bs := [px_vb (nI ((5 * sd) + (S.1 31))) 10]) rfl rfl (by (try simp only [q7]); exact (px_all (px_vbN (by omega) (by decide)) rfl)) ?_
  simp only [q7]
  refine XG.callV0 eX9_tellCrosser_57 kl_X9_273 (con_bounded (d - 1) v3 (va_up (va_up a 32 (upd (a 32) ((5 * sd) + (S.1 31)) x2)) 33 (upd (a 33) ((5 * sd) + (S.1 31)) x3)) b K hT (bd (bd (bd (.inr s) (nameS K S.2.2.1)) (bndS K 0 99)) (bndS K 0 9)) hP3 0 99 (by omega) (by omega) (by omega)) (px_fitS (by omega)) rfl rfl rfl (Nat.le_of_ble_eq_true rfl) (fun r9 W9 hp9 hl9 => ?_)
  obtain ⟨v4, x4, rfl, hc4, hP4, rfl, hx4⟩ := hp9
  have q8 : (nI ((5 * sd) + (S.1 31))).toNatClampNeg = ((5 * sd) + (S.1 31)) := nI_clamp (by omega)
  refine XG.blk tX9_tellCrosser_ok 37 4 (pc' := 64) (pl' := [some (.ref 0), some (.int (nI ((5 * sd) + (S.1 31)))), some (.int (nI s.1))]) (st' := [(.int (-1)), (.int (nI s.1)), (.ref 0)]) (W1 := (mW v4 (va_up (va_up (va_up a 32 (upd (a 32) ((5 * sd) + (S.1 31)) x2)) 33 (upd (a 33) ((5 * sd) + (S.1 31)) x3)) 34 (upd (a 34) (nI ((5 * sd) + (S.1 31))).toNatClampNeg x4)) b)) (bs := [px_vb (nI ((5 * sd) + (S.1 31))) 10]) rfl rfl (by (try simp only [q8]); exact (px_all (px_vbN (by omega) (by decide)) rfl)) ?_
  simp only [q8]
  refine XG.callV0 eX9_tellCrosser_64 kl_X9_302 (con_ends (d - 1) v4 (va_up (va_up (va_up a 32 (upd (a 32) ((5 * sd) + (S.1 31)) x2)) 33 (upd (a 33) ((5 * sd) + (S.1 31)) x3)) 34 (upd (a 34) ((5 * sd) + (S.1 31)) x4)) b K hT (bd (bd (bd (bd (.inr s) (nameS K S.2.2.1)) (bndS K 0 99)) (bndS K 0 9)) (bndS K 0 99)) hP4 S.2.2.1 ⟨((hc4 20 (by decide)).trans ((hc3 20 (by decide)).trans ((hc2 20 (by decide)).trans ((hc1 20 (by decide)))))).trans hN.1, hN.2.1, hN.2.2⟩ (by omega) s.1 (by omega) (-1) (by omega)) (px_fitS (by omega)) rfl rfl rfl (Nat.le_of_ble_eq_true rfl) (fun r9 W9 hp9 hl9 => ?_)
  obtain ⟨rfl, v5, hc5, hP5, hW5⟩ := hp9
  have hvc := ((((hc1.mono (S' := [11, 13, 14, 15, 16]) (by decide)).tr hc2).tr hc3).tr hc4).tr (hc5.mono (by decide))
  have hfa : FrR sd v v a (va_up (va_up (va_up a 32 (upd (a 32) ((5 * sd) + (S.1 31)) x2)) 33 (upd (a 33) ((5 * sd) + (S.1 31)) x3)) 34 (upd (a 34) ((5 * sd) + (S.1 31)) x4)) b b := (FrR.set 32 (5 * sd + S.1 31) x2 (by rw [show strd 32 = 5 from by decide]; omega) (by rw [show strd 32 = 5 from by decide]; omega)).tr ((FrR.set 33 (5 * sd + S.1 31) x3 (by rw [show strd 33 = 5 from by decide]; omega) (by rw [show strd 33 = 5 from by decide]; omega)).tr (FrR.set 34 (5 * sd + S.1 31) x4 (by rw [show strd 34 = 5 from by decide]; omega) (by rw [show strd 34 = 5 from by decide]; omega)))
  rcases hW5 with ⟨e, hr6, rfl⟩ | ⟨s7, hr6, rfl⟩
  · rw [hr6] at hP5
    have hx13 : ¬ v5 13 = 0 := by rw [hP5.2.1]; exact nI_nz (by have := hP5.1; omega) (by have := hP5.1; omega)
    refine XG.blk tX9_tellCrosser_ok 42 2 (pc' := 71) (pl' := [some (.ref 0), some (.int (nI ((5 * sd) + (S.1 31)))), some (.int (nI s.1))]) (st' := [(.int (v5 13))]) (W1 := (mW v5 (va_up (va_up (va_up a 32 (upd (a 32) ((5 * sd) + (S.1 31)) x2)) 33 (upd (a 33) ((5 * sd) + (S.1 31)) x3)) 34 (upd (a 34) ((5 * sd) + (S.1 31)) x4)) b)) (bs := []) rfl rfl rfl ?_
    refine XG.br eX9_tellCrosser_71 (P := ¬ (v5 13) = 0) (r := []) rfl (tgt := 87) (by decide) (fun h71 => ?_) (fun h71 => ?_)
    · skip
      refine XS.vret eX9_tellCrosser_87 rfl ?_
      refine ⟨_, _, _, rfl, ⟨hvc.mono (by decide), hfa.2.1, chg.rf⟩, ?_, rfl⟩
      show RQ K sd (bd (bd (bd (bd (bd (bd (.inr s) (nameS K S.2.2.1)) (bndS K 0 99)) (bndS K 0 9)) (bndS K 0 99)) (mstS K 4)) _) _ _ _
      rw [hr6]
      exact hP5
    · exfalso
      have h71 := Decidable.not_not.mp h71
      first | exact hx13 h71 | exact h71 hx13
  · rw [hr6] at hP5
    have hx13 : v5 13 = 0 := hP5.2.2.1
    refine XG.blk tX9_tellCrosser_ok 42 2 (pc' := 71) (pl' := [some (.ref 0), some (.int (nI ((5 * sd) + (S.1 31)))), some (.int (nI s.1))]) (st' := [(.int (v5 13))]) (W1 := (mW (va_up v5 20 (nI (S.2.2.1.length + 1))) (va_up (va_up (va_up (va_up a 32 (upd (a 32) ((5 * sd) + (S.1 31)) x2)) 33 (upd (a 33) ((5 * sd) + (S.1 31)) x3)) 34 (upd (a 34) ((5 * sd) + (S.1 31)) x4)) 22 (upd (a 22) S.2.2.1.length (-1))) (va_up b 21 (vp_updL (b 21) S.2.2.1.length (b 8 s.1))))) (bs := []) rfl rfl rfl ?_
    refine XG.br eX9_tellCrosser_71 (P := ¬ (v5 13) = 0) (r := []) rfl (tgt := 87) (by decide) (fun h71 => ?_) (fun h71 => ?_)
    · exfalso
      first | exact hx13 h71 | exact h71 hx13
    · skip
      have h71 := Decidable.not_not.mp h71
      have q9 : (v5 19) = (nI sd) := (hc5 19 (by decide)).trans ((hc4 19 (by decide)).trans ((hc3 19 (by decide)).trans ((hc2 19 (by decide)).trans ((hc1 19 (by decide)).trans hsd))))
      have q10 : (nI sd).toNatClampNeg = sd := nI_clamp (by omega)
      have q11 : ((a 31) sd) = (nI (S.1 31)) := h24
      have q12 : ((nI (S.1 31)) + (nI 1)) = (nI ((S.1 31) + 1)) := px_eadd rfl rfl
      refine XG.blk tX9_tellCrosser_ok 45 9 (pc' := 87) (pl' := [some (.ref 0), some (.int (nI ((5 * sd) + (S.1 31)))), some (.int (nI s.1))]) (st' := []) (W1 := (mW (va_up v5 20 (nI (S.2.2.1.length + 1))) (va_up (va_up (va_up (va_up (va_up a 32 (upd (a 32) ((5 * sd) + (S.1 31)) x2)) 33 (upd (a 33) ((5 * sd) + (S.1 31)) x3)) 34 (upd (a 34) ((5 * sd) + (S.1 31)) x4)) 22 (upd (a 22) S.2.2.1.length (-1))) 31 (upd (a 31) (v5 19).toNatClampNeg (((a 31) (v5 19).toNatClampNeg) + (nI 1)))) (va_up b 21 (vp_updL (b 21) S.2.2.1.length (b 8 s.1))))) (bs := [px_vb (v5 19) 2, px_vb (v5 19) 2]) rfl rfl (by (try simp only [q9, q10, q11, q12]); exact (px_all (px_vbN (by omega) (by decide)) (px_all (px_vbN (by omega) (by decide)) rfl))) ?_
      simp only [q9, q10, q11, q12]
      refine XS.vret eX9_tellCrosser_87 rfl ?_
      obtain ⟨s5, e5, m6⟩ := bd_inrE hr6
      obtain ⟨s4, e4, m5⟩ := bd_inrE e5
      obtain ⟨s3, e3, m4⟩ := bd_inrE e4
      obtain ⟨s2, e2, m3⟩ := bd_inrE e3
      obtain ⟨p1, -, p2⟩ := nameS_inr e2
      have p3 := (bndS_inr m3).2.2
      have p4 := (bndS_inr m4).2.2
      have p5 := (bndS_inr m5).2.2
      obtain ⟨-, -, rfl⟩ := mstS_inr m6
      have x2v : x2 = nI (K.2.2.1 (s.1 + 1)) := by rw [hx2 s2 s3 e2 m3, show s2.1 = s.1 + 1 by omega]
      have x3v : x3 = nI (K.2.2.1 (s.1 + 2)) := by rw [hx3 s3 s4 e3 m4, show s3.1 = s.1 + 2 by omega]
      have x4v : x4 = nI (K.2.2.1 (s.1 + 3)) := by rw [hx4 s4 s5 e4 m5, show s4.1 = s.1 + 3 by omega]
      have hK := hT s.1 h.1 h.2.2.2.1
      have h8 := hK.2.2.2.1 p1
      refine ⟨_, _, _, rfl, ⟨(hvc.mono (by decide)).tr (chg.up (by decide)), ?_, chg.up (by decide)⟩, ?_, rfl⟩
      · exact (hfa.tr ((FrR.n22 _).tr (FrR.set 31 sd (nI (S.1 31 + 1)) (by rw [show strd 31 = 1 from by decide]; omega) (by rw [show strd 31 = 1 from by decide]; omega)))).2.1
      show RQ K sd (bd (bd (bd (bd (bd (bd (.inr s) (nameS K S.2.2.1)) (bndS K 0 99)) (bndS K 0 9)) (bndS K 0 99)) (mstS K 4)) _) _ _ _
      rw [hr6]
      refine ⟨hP5.chg chg20, ?_, ?_, ?_, ?_, ⟨?_, ?_, ?_⟩, ?_, ?_, ?_⟩
      · intro k hk
        by_cases e : k = 31
        · subst e; show upd (a 31) sd _ sd = nI (va_up S.1 31 _ 31); rw [pk_us]; rfl
        · have h9 := hR.1 k hk
          show _ = nI (va_up S.1 31 (S.1 31 + 1) k)
          rw [show va_up S.1 31 (S.1 31 + 1) k = S.1 k from if_neg e, ← h9]
          simp only [List.mem_cons, List.not_mem_nil, or_false] at hk
          rcases hk with rfl | rfl | rfl | rfl | rfl | rfl | rfl <;> first | rfl | exact absurd rfl e
      · refine ⟨hB.1, ?_, hB.2.2⟩
        show S.1 31 + 1 ≤ 5; omega
      
      · intro i hi k hk
        have h9 := hR.2.2.1 i hi k hk
        simp only [List.mem_cons, List.not_mem_nil, or_false] at hk
        rcases hk with rfl | rfl | rfl | rfl <;> exact h9
      · intro i hi k hk
        have hi : i < S.1 31 + 1 := hi
        simp only [List.mem_cons, List.not_mem_nil, or_false] at hk
        rcases hk with rfl | rfl | rfl
        · exact row_up (fun i hi => hR.2.2.2.1 i hi 32 (by decide)) x2v i hi
        · exact row_up (fun i hi => hR.2.2.2.1 i hi 33 (by decide)) x3v i hi
        · exact row_up (fun i hi => hR.2.2.2.1 i hi 34 (by decide)) x4v i hi
      · exact NmR_app hN (by omega) (z := none) h8.2 rfl rfl (by rw [← h8.1]; rfl) rfl (fun j hj => by cases hj)
      · show (S.2.2.1 ++ [_]).length = S.1 24 + (S.1 31 + 1)
        rw [List.length_append, hNl]; show _ + 1 = _; omega
      · intro e he j hj
        rcases List.mem_append.mp he with h9 | h9
        · have := hR.2.2.2.2.1.2.2 e h9 j hj
          exact this
        · simp only [List.mem_singleton] at h9; subst h9; cases hj
      · exact hR.2.2.2.2.2.1
      · exact CdR_chg (v := v) (a := a) (by show s.1 ≤ s5.1 + 1; omega) ⟨hvc 40 (by decide), hvc 46 (by decide)⟩ (by intro k hk; simp only [List.mem_cons, List.not_mem_nil, or_false] at hk; rcases hk with rfl | rfl | rfl | rfl | rfl | rfl | rfl | rfl | rfl <;> rfl) hR.2.2.2.2.2.2.1
      · exact (hvc 12 (by decide)).trans hR.2.2.2.2.2.2.2
