/-! THE CLASS: products and sums -/
def lpL (K : TKS) (P : Nat → PE ⊕ (Nat × Cde)) (op : Nat → Option Nat) (n : Nat) (q : PT × Cde) : PE ⊕ (PT × Cde) := bd (lpS K P op n q.1.1 q.2) (fun x => .inr ((x.1, q.1.2), x.2))
theorem lpL_0 {K : TKS} {P : Nat → PE ⊕ (Nat × Cde)} {op : Nat → Option Nat} (R : PE ⊕ (PT × Cde)) : bd R (lpL K P op 0) = R := by
  cases R with
  | inl e => rfl
  | inr q => rfl
theorem lp_stop {K : TKS} {P : Nat → PE ⊕ (Nat × Cde)} {op : Nat → Option Nat} {R : PE ⊕ (PT × Cde)} {n : Nat} (h : ∀ q, R = .inr q → op (K.1 q.1.1) = none) : bd R (lpL K P op n) = R := by
  cases R with
  | inl e => rfl
  | inr q =>
    have h := h q rfl
    cases n with
    | zero => rfl
    | succ n =>
      have e : lpS K P op (n + 1) q.1.1 q.2 = .inr (q.1.1, q.2) := by
        show (match op (K.1 q.1.1) with | none => _ | some z => _) = _
        rw [h]
      show bd (lpS K P op (n + 1) q.1.1 q.2) _ = _
      rw [e]; rfl
theorem lp_step {K : TKS} {P : Nat → PE ⊕ (Nat × Cde)} {op : Nat → Option Nat} {q : PT × Cde} {n k z : Nat} (hk : K.1 q.1.1 = k) (ho : op k = some z) : bd (.inr q) (lpL K P op (n + 1)) = bd (bd (bd (bd (.inr q.1) (mstS K k)) (lfE P)) (fun x => .inr (x.1, q.2 ++ x.2 ++ [(z, 0)]))) (lpL K P op n) := by
  have e : lpS K P op (n + 1) q.1.1 q.2 = bd (advN q.1.1) (fun t1 => bd (P t1) (fun x => lpS K P op n x.1 (q.2 ++ x.2 ++ [(z, 0)]))) := by
    show (match op (K.1 q.1.1) with | none => _ | some z => _) = _
    rw [hk, ho]
  rw [bd_mst hk]
  show bd (lpS K P op (n + 1) q.1.1 q.2) _ = _
  rw [e]
  unfold advS
  cases advN q.1.1 with
  | inl e => rfl
  | inr t1 =>
    show bd (bd (P t1) _) _ = bd (bd (bd (P t1) _) _) _
    cases P t1 <;> rfl
theorem see_z {K : TKS} {R : PE ⊕ (PT × Cde)} {k : Nat} (h : seeB K (prj R) k = 0) : ∀ q, R = .inr q → ¬ K.1 q.1.1 = k := by
  intro q e w
  subst e
  have e1 : seeB K (prj (.inr q)) k = 1 := if_pos w
  exact absurd (e1.symm.trans h) (by decide)
theorem see_q {K : TKS} {R : PE ⊕ (PT × Cde)} {k : Nat} (h : ¬ seeB K (prj R) k = 0) : ∃ q, R = .inr q ∧ K.1 q.1.1 = k := by
  cases R with
  | inl e => exact absurd rfl h
  | inr q =>
    refine ⟨q, rfl, ?_⟩
    by_cases w : K.1 q.1.1 = k
    · exact w
    · exact absurd (if_neg w) h
theorem opP_no {k : Nat} (h1 : ¬ k = 10) (h2 : ¬ k = 15) : opP k = none := by unfold opP; rw [if_neg h1, if_neg h2]
theorem opM_no {k : Nat} (h1 : ¬ k = 8) (h2 : ¬ k = 9) : opM k = none := by unfold opM; rw [if_neg h1, if_neg h2]
theorem lf_lp {K : TKS} {P E : Nat → PE ⊕ (Nat × Cde)} {op : Nat → Option Nat} (hE : ∀ t, E t = bd (P t) (fun x => lpS K P op 400 x.1 x.2)) (r : PE ⊕ PT) : bd (bd r (lfE P)) (lpL K P op 400) = bd r (lfE E) := by
  cases r with
  | inl e => rfl
  | inr s =>
    show bd (lfE P s) _ = lfE E s
    unfold lfE
    rw [hE]
    cases P s.1 <;> rfl
theorem EQc.op {K : TKS} {a z z1 z3 ok : Nat} {st st1 st3 rv1 rv3 : Nat → Int32} {q : PT × Cde} {X : PE ⊕ (PT × Cde)} (h1 : EQc K a z st (.inr q) rv1 z1 st1) (h3 : EQc K (a + 1) z1 st1 X rv3 z3 st3) (ho : ok < 8) : EQc K a z st (bd X (fun x => .inr (x.1, q.2 ++ x.2 ++ [(ok, 0)]))) rv3 (adZ z3) (adS st3 z3 (stX (nI ok) (nI 0))) := by
  obtain ⟨g1, g2, g3, g4⟩ := h1
  obtain ⟨k1, k2, k3, k4⟩ := h3
  have hz3 : z3 ≤ adZ z3 ∧ adZ z3 ≤ 404 := ⟨by unfold adZ; split <;> omega, adZ_le k2⟩
  refine ⟨by omega, hz3.2, ?_, fun q' hq => ?_⟩
  · have e : prj (bd X (fun x => .inr (x.1, q.2 ++ x.2 ++ [(ok, 0)]))) = prj X := by cases X <;> rfl
    rw [e]; exact k3
  · obtain ⟨x, ex, e2⟩ := bd_inrE hq
    obtain rfl := Sum.inr.inj e2
    obtain ⟨p1, p2, p3, p4⟩ := g4 q rfl
    obtain ⟨r1, r2, r3, r4⟩ := k4 x ex
    rw [ex] at k3
    have hx4 : x.1.1 ≤ 400 := (show PVc K (.inr x.1) rv3 from k3).1
    have h : z3 < 404 := by omega
    rw [adZ_lt h, adS_lt h]
    refine ⟨?_, fun i hi => ?_, ?_, ?_⟩
    · show z3 + 1 = z + (q.2 ++ x.2 ++ [(ok, 0)]).length
      rw [List.length_append, List.length_append]
      show z3 + 1 = z + (q.2.length + x.2.length + 1)
      omega
    · rw [upd_ne (by omega), r2 i (by omega)]; exact p2 i hi
    · refine sgC_mk (sgC_mk (sgC_cg p3 (fun i hi => ?_)) ?_) ?_
      · rw [upd_ne (by omega)]; exact r2 i (by omega)
      · rw [← p1]; exact sgC_cg r3 (fun i hi => upd_ne (by omega))
      · rw [List.length_append, show z + (q.2.length + x.2.length) = z3 by omega]
        exact sgC_1 (by rw [upd_eq, stX_n ho (by decide)])
    · show z3 + 1 + a ≤ x.1.1 + 2
      omega
set_option maxHeartbeats 1000000 in
theorem cc_product (K : TKS) (sub : Option (Nat → PE ⊕ (Nat × Cde))) (b d : Nat) (hb : b ≤ 6) (hd : 2 ≤ d) (hU : cEx K mX3_parseUnit (unS K sub) b (d - 1)) : cEx K mX3_parseProduct (prS K sub) b d := by
  intro rv ra rb tv ta tb bg hT r hP a z st hz hz2
  refine Con.of (by decide) (Nat.le_of_ble_eq_true rfl) ?_
  refine XG.blk tX3_parseProduct_ok 0 2 (pc' := 2) (pl' := [some (.ref 0), some (.int (nI b)), none, none]) (st' := [(.int (nI b)), (.ref 0)]) (W1 := (dW rv ra rb (.ref 6) (vX tv ta tb z st bg))) (bs := []) rfl rfl rfl ?_
  refine XG.callV0 eX3_parseProduct_2 kl_X3_236 (hU rv ra rb tv ta tb bg hT r hP a z st hz hz2) (px_fitS (by omega)) rfl rfl rfl (Nat.le_of_ble_eq_true rfl) (fun r9 W9 hp9 hl9 => ?_)
  obtain ⟨rv1, z1, st1, rfl, hc1, hE1, rfl⟩ := hp9
  show XG _ _ _ _ _ _ [] (dW rv1 ra rb (.ref 6) (vX tv ta tb z1 st1 bg))
  refine XG.blk tX3_parseProduct_ok 3 2 (pc' := 7) (pl' := [some (.ref 0), some (.int (nI b)), some (.int (nI 0)), none]) (st' := []) (W1 := (dW rv1 ra rb (.ref 6) (vX tv ta tb z1 st1 bg))) (bs := []) rfl rfl rfl ?_
  refine px_for 400 (fun i => ∀ (rv8 : Nat → Int32) (z8 : Nat) (st8 : Nat → Int32) (R : PE ⊕ (PT × Cde)) (hc8 : chg [1, 8, 9] rv rv8) (hE8 : EQc K a z st R rv8 z8 st8) (hF : bd R (lpL K (unS K sub) opP (400 - i)) = bd r (lfE (prS K sub))), XG mX3_parseProduct _ 0 0 7 [some (.ref 0), some (.int (nI b)), some (.int (nI i)), none] [] (dW rv8 ra rb (.ref 6) (vX tv ta tb z8 st8 bg))) ?_ ?_ 0 (Nat.zero_le _) rv1 z1 st1 (bd r (lfE (unS K sub))) hc1 hE1 (lf_lp (fun _ => rfl) r)
  · intro rv8 z8 st8 R hc8 hE8 hF
    refine XG.blk tX3_parseProduct_ok 5 2 (pc' := 11) (pl' := [some (.ref 0), some (.int (nI b)), some (.int (nI 400)), none]) (st' := [(.int (nI 400)), (.int (nI 400))]) (W1 := (dW rv8 ra rb (.ref 6) (vX tv ta tb z8 st8 bg))) (bs := []) rfl rfl rfl ?_
    refine XG.br eX3_parseProduct_11 (P := (nI 400) ≤ (nI 400)) (r := []) rfl (tgt := 80) (by decide) (fun h11 => ?_) (fun h11 => ?_)
    · skip
      have g11 : 400 ≤ 400 := (nI_leI (a := 400) (b := 400) (by omega) (by omega)).mp h11
      refine XS.vret eX3_parseProduct_80 rfl ?_
      refine ⟨_, _, _, rfl, hc8, ?_, rfl⟩
      rw [← hF, Nat.sub_self, lpL_0]; exact hE8
    · exfalso
      have g11 : ¬ 400 ≤ 400 := (fun z_9 => h11 ((nI_leI (a := 400) (b := 400) (by omega) (by omega)).mpr z_9))
      omega
  · intro i hi ihi rv8 z8 st8 R hc8 hE8 hF
    refine XG.blk tX3_parseProduct_ok 5 2 (pc' := 11) (pl' := [some (.ref 0), some (.int (nI b)), some (.int (nI i)), none]) (st' := [(.int (nI 400)), (.int (nI i))]) (W1 := (dW rv8 ra rb (.ref 6) (vX tv ta tb z8 st8 bg))) (bs := []) rfl rfl rfl ?_
    refine XG.br eX3_parseProduct_11 (P := (nI 400) ≤ (nI i)) (r := []) rfl (tgt := 80) (by decide) (fun h11 => ?_) (fun h11 => ?_)
    · exfalso
      have g11 : 400 ≤ i := (nI_leI (a := 400) (b := i) (by omega) (by omega)).mp h11
      omega
    · skip
      have g11 : ¬ 400 ≤ i := (fun z_9 => h11 ((nI_leI (a := 400) (b := i) (by omega) (by omega)).mpr z_9))
      refine XG.blk tX3_parseProduct_ok 8 2 (pc' := 17) (pl' := [some (.ref 0), some (.int (nI b)), some (.int (nI i)), none]) (st' := [(.int (nI 42)), (.ref 0)]) (W1 := (dW rv8 ra rb (.ref 6) (vX tv ta tb z8 st8 bg))) (bs := []) rfl rfl rfl ?_
      refine XG.callV0 eX3_parseProduct_17 kl_X3_218 (cc_sees (d - 1) rv8 ra rb (.ref 6) (vX tv ta tb z8 st8 bg) K hT (prj R) hE8.2.2.1 10 (by unfold vk; omega)) (px_fitS (by omega)) rfl rfl rfl (Nat.le_of_ble_eq_true rfl) (fun r9 W9 hp9 hl9 => ?_)
      obtain ⟨rfl, rfl⟩ := hp9
      refine XG.br eX3_parseProduct_20 (P := ¬ (seeB K (prj R) 10) = 0) (r := []) rfl (tgt := 32) (by decide) (fun h20 => ?_) (fun h20 => ?_)
      · skip
        obtain ⟨q, rfl, hkq⟩ := see_q h20
        have hPq : PVc K (.inr q.1) rv8 := hE8.2.2.1
        have hq4 := hPq.1
        have hkk : ((ra 4) q.1.1) = nI 42 := by rw [(hT q.1.1 hPq.1 hPq.2.2.2.1).1, hkq]; rfl
        have q1 : (rv8 8) = (nI q.1.1) := hPq.2.1
        have q2 : (nI q.1.1).toNatClampNeg = q.1.1 := nI_clamp (by omega)
        have q3 : ((ra 4) q.1.1) = (nI 42) := hkk
        refine XG.blk tX3_parseProduct_ok 16 8 (pc' := 44) (pl' := [some (.ref 0), some (.int (nI b)), some (.int (nI i)), some (.int ((ra 4) (rv8 8).toNatClampNeg))]) (st' := [(.int ((ra 4) (rv8 8).toNatClampNeg)), (.ref 0)]) (W1 := (dW rv8 ra rb (.ref 6) (vX tv ta tb z8 st8 bg))) (bs := [px_vb (rv8 8) 402]) rfl rfl (by (try simp only [q1, q2, q3]); exact (px_all (px_vbN (by omega) (by decide)) rfl)) ?_
        simp only [q1, q2, q3]
        refine XG.callV0 eX3_parseProduct_44 kl_X3_130 (cc_take (d - 1) rv8 ra rb (.ref 6) (vX tv ta tb z8 st8 bg) K hT (.inr q.1) hPq 10 (by unfold vk; omega) (by decide)) (px_fitS (by omega)) rfl rfl rfl (Nat.le_of_ble_eq_true rfl) (fun r9 W9 hp9 hl9 => ?_)
        obtain ⟨rv2, rfl, hc2, hP2, rfl⟩ := hp9
        show XG _ _ _ _ _ _ [] (dW rv2 ra rb (.ref 6) (vX tv ta tb z8 st8 bg))
        refine XG.blk tX3_parseProduct_ok 25 2 (pc' := 49) (pl' := [some (.ref 0), some (.int (nI b)), some (.int (nI i)), some (.int (nI 42))]) (st' := [(.int (nI b)), (.ref 0)]) (W1 := (dW rv2 ra rb (.ref 6) (vX tv ta tb z8 st8 bg))) (bs := []) rfl rfl rfl ?_
        refine XG.callV0 eX3_parseProduct_49 kl_X3_236 (hU rv2 ra rb tv ta tb bg hT (bd (.inr q.1) (mstS K 10)) hP2 (a + 1) z8 st8 hE8.2.1 (fun s1 h1 => by rw [bd_mst hkq] at h1; rw [adv_s h1]; have := (hE8.2.2.2 q rfl).2.2.2; show z8 + (a + 1) ≤ q.1.1 + 1 + 2; omega)) (px_fitS (by omega)) rfl rfl rfl (Nat.le_of_ble_eq_true rfl) (fun r9 W9 hp9 hl9 => ?_)
        obtain ⟨rv3, z3, st3, rfl, hc3, hE3, rfl⟩ := hp9
        show XG _ _ _ _ _ _ [] (dW rv3 ra rb (.ref 6) (vX tv ta tb z3 st3 bg))
        refine XG.blk tX3_parseProduct_ok 28 5 (pc' := 62) (pl' := [some (.ref 0), some (.int (nI b)), some (.int (nI i)), some (.int (nI 42))]) (st' := [(.int (nI 42)), (.int (nI 42)), (.ref 17)]) (W1 := (dW rv3 ra rb (.ref 6) (vX tv ta tb z3 st3 bg))) (bs := []) rfl rfl rfl ?_
        refine XG.br eX3_parseProduct_62 (P := ¬ (nI 42) = (nI 42)) (r := [(.ref 17)]) rfl (tgt := 69) (by decide) (fun h62 => ?_) (fun h62 => ?_)
        · exfalso
          have g62 : ¬ 42 = 42 := (fun z_9 => h62 ((nI_eq (a := 42) (b := 42) (by omega) (by omega)).mpr z_9))
          omega
        · skip
          have h62 := Decidable.not_not.mp h62
          have g62 : 42 = 42 := (nI_eq (a := 42) (b := 42) (by omega) (by omega)).mp h62
          refine XG.blk tX3_parseProduct_ok 34 1 (pc' := 66) (pl' := [some (.ref 0), some (.int (nI b)), some (.int (nI i)), some (.int (nI 42))]) (st' := [(.int (nI 4)), (.ref 17)]) (W1 := (dW rv3 ra rb (.ref 6) (vX tv ta tb z3 st3 bg))) (bs := []) rfl rfl rfl ?_
          refine XG.goto eX3_parseProduct_66 (tgt := 70) (by decide) ?_
          refine XG.blk tX3_parseProduct_ok 37 1 (pc' := 71) (pl' := [some (.ref 0), some (.int (nI b)), some (.int (nI i)), some (.int (nI 42))]) (st' := [(.int (nI 0)), (.int (nI 4)), (.ref 17)]) (W1 := (dW rv3 ra rb (.ref 6) (vX tv ta tb z3 st3 bg))) (bs := []) rfl rfl rfl ?_
          refine XG.callV (ro := [17, 18, 19, 20]) (W1 := (gW (nI z3) st3 bg (ta 22))) eX3_parseProduct_71 kl_X3_227 (cc_lawAdd (d - 1) z3 st3 bg (ta 22) hE3.2.1 (nI 4) (nI 0)) (px_fitS (by omega)) rfl ⟨rfl, by decide, by decide⟩ rfl rfl (Nat.le_of_ble_eq_true rfl) (fun r9 W9 hp9 hl9 => ?_)
          obtain ⟨rfl, rfl⟩ := hp9
          rw [pt_vg]
          show XG _ _ _ _ _ _ [] (dW rv3 ra rb (.ref 6) (vX tv ta tb (adZ z3) (adS st3 z3 (stX (nI 4) (nI 0))) bg))
          have q4 : ((nI i) + (nI 1)) = (nI (i + 1)) := px_eadd rfl rfl
          refine XG.blk tX3_parseProduct_ok 39 1 (pc' := 77) (pl' := [some (.ref 0), some (.int (nI b)), some (.int ((nI i) + (nI 1))), some (.int (nI 42))]) (st' := []) (W1 := (dW rv3 ra rb (.ref 6) (vX tv ta tb (adZ z3) (adS st3 z3 (stX (nI 4) (nI 0))) bg))) (bs := []) rfl rfl rfl ?_
          simp only [q4]
          refine XG.goto eX3_parseProduct_77 (tgt := 7) (by decide) ?_
          refine XG.weak (pl' := [some (.ref 0), some (.int (nI b)), some (.int (nI (i + 1))), none]) ⟨rfl, rfl, rfl, trivial⟩ ?_
          exact ihi _ _ _ _ (hc8.tr (hc2.tr hc3)) (hE8.op hE3 (by decide)) (by rw [← hF, show 400 - i = (400 - (i + 1)) + 1 by omega]; exact (lp_step (op := opP) hkq rfl).symm)
      · skip
        have h20 := Decidable.not_not.mp h20
        refine XG.blk tX3_parseProduct_ok 12 2 (pc' := 26) (pl' := [some (.ref 0), some (.int (nI b)), some (.int (nI i)), none]) (st' := [(.int (nI 47)), (.ref 0)]) (W1 := (dW rv8 ra rb (.ref 6) (vX tv ta tb z8 st8 bg))) (bs := []) rfl rfl rfl ?_
        refine XG.callV0 eX3_parseProduct_26 kl_X3_218 (cc_sees (d - 1) rv8 ra rb (.ref 6) (vX tv ta tb z8 st8 bg) K hT (prj R) hE8.2.2.1 15 (by unfold vk; omega)) (px_fitS (by omega)) rfl rfl rfl (Nat.le_of_ble_eq_true rfl) (fun r9 W9 hp9 hl9 => ?_)
        obtain ⟨rfl, rfl⟩ := hp9
        refine XG.br eX3_parseProduct_29 (P := (seeB K (prj R) 15) = 0) (r := []) rfl (tgt := 80) (by decide) (fun h29 => ?_) (fun h29 => ?_)
        · skip
          refine XS.vret eX3_parseProduct_80 rfl ?_
          refine ⟨_, _, _, rfl, hc8, ?_, rfl⟩
          rw [← hF, lp_stop (fun q e => opP_no (see_z h20 q e) (see_z h29 q e))]; exact hE8
        · skip
          obtain ⟨q, rfl, hkq⟩ := see_q h29
          have hPq : PVc K (.inr q.1) rv8 := hE8.2.2.1
          have hq4 := hPq.1
          have hkk : ((ra 4) q.1.1) = nI 47 := by rw [(hT q.1.1 hPq.1 hPq.2.2.2.1).1, hkq]; rfl
          have q5 : (rv8 8) = (nI q.1.1) := hPq.2.1
          have q6 : (nI q.1.1).toNatClampNeg = q.1.1 := nI_clamp (by omega)
          have q7 : ((ra 4) q.1.1) = (nI 47) := hkk
          refine XG.blk tX3_parseProduct_ok 16 8 (pc' := 44) (pl' := [some (.ref 0), some (.int (nI b)), some (.int (nI i)), some (.int ((ra 4) (rv8 8).toNatClampNeg))]) (st' := [(.int ((ra 4) (rv8 8).toNatClampNeg)), (.ref 0)]) (W1 := (dW rv8 ra rb (.ref 6) (vX tv ta tb z8 st8 bg))) (bs := [px_vb (rv8 8) 402]) rfl rfl (by (try simp only [q5, q6, q7]); exact (px_all (px_vbN (by omega) (by decide)) rfl)) ?_
          simp only [q5, q6, q7]
          refine XG.callV0 eX3_parseProduct_44 kl_X3_130 (cc_take (d - 1) rv8 ra rb (.ref 6) (vX tv ta tb z8 st8 bg) K hT (.inr q.1) hPq 15 (by unfold vk; omega) (by decide)) (px_fitS (by omega)) rfl rfl rfl (Nat.le_of_ble_eq_true rfl) (fun r9 W9 hp9 hl9 => ?_)
          obtain ⟨rv2, rfl, hc2, hP2, rfl⟩ := hp9
          show XG _ _ _ _ _ _ [] (dW rv2 ra rb (.ref 6) (vX tv ta tb z8 st8 bg))
          refine XG.blk tX3_parseProduct_ok 25 2 (pc' := 49) (pl' := [some (.ref 0), some (.int (nI b)), some (.int (nI i)), some (.int (nI 47))]) (st' := [(.int (nI b)), (.ref 0)]) (W1 := (dW rv2 ra rb (.ref 6) (vX tv ta tb z8 st8 bg))) (bs := []) rfl rfl rfl ?_
          refine XG.callV0 eX3_parseProduct_49 kl_X3_236 (hU rv2 ra rb tv ta tb bg hT (bd (.inr q.1) (mstS K 15)) hP2 (a + 1) z8 st8 hE8.2.1 (fun s1 h1 => by rw [bd_mst hkq] at h1; rw [adv_s h1]; have := (hE8.2.2.2 q rfl).2.2.2; show z8 + (a + 1) ≤ q.1.1 + 1 + 2; omega)) (px_fitS (by omega)) rfl rfl rfl (Nat.le_of_ble_eq_true rfl) (fun r9 W9 hp9 hl9 => ?_)
          obtain ⟨rv3, z3, st3, rfl, hc3, hE3, rfl⟩ := hp9
          show XG _ _ _ _ _ _ [] (dW rv3 ra rb (.ref 6) (vX tv ta tb z3 st3 bg))
          refine XG.blk tX3_parseProduct_ok 28 5 (pc' := 62) (pl' := [some (.ref 0), some (.int (nI b)), some (.int (nI i)), some (.int (nI 47))]) (st' := [(.int (nI 42)), (.int (nI 47)), (.ref 17)]) (W1 := (dW rv3 ra rb (.ref 6) (vX tv ta tb z3 st3 bg))) (bs := []) rfl rfl rfl ?_
          refine XG.br eX3_parseProduct_62 (P := ¬ (nI 47) = (nI 42)) (r := [(.ref 17)]) rfl (tgt := 69) (by decide) (fun h62 => ?_) (fun h62 => ?_)
          · skip
            have g62 : ¬ 47 = 42 := (fun z_9 => h62 ((nI_eq (a := 47) (b := 42) (by omega) (by omega)).mpr z_9))
            refine XG.blk tX3_parseProduct_ok 36 2 (pc' := 71) (pl' := [some (.ref 0), some (.int (nI b)), some (.int (nI i)), some (.int (nI 47))]) (st' := [(.int (nI 0)), (.int (nI 5)), (.ref 17)]) (W1 := (dW rv3 ra rb (.ref 6) (vX tv ta tb z3 st3 bg))) (bs := []) rfl rfl rfl ?_
            refine XG.callV (ro := [17, 18, 19, 20]) (W1 := (gW (nI z3) st3 bg (ta 22))) eX3_parseProduct_71 kl_X3_227 (cc_lawAdd (d - 1) z3 st3 bg (ta 22) hE3.2.1 (nI 5) (nI 0)) (px_fitS (by omega)) rfl ⟨rfl, by decide, by decide⟩ rfl rfl (Nat.le_of_ble_eq_true rfl) (fun r9 W9 hp9 hl9 => ?_)
            obtain ⟨rfl, rfl⟩ := hp9
            rw [pt_vg]
            show XG _ _ _ _ _ _ [] (dW rv3 ra rb (.ref 6) (vX tv ta tb (adZ z3) (adS st3 z3 (stX (nI 5) (nI 0))) bg))
            have q8 : ((nI i) + (nI 1)) = (nI (i + 1)) := px_eadd rfl rfl
            refine XG.blk tX3_parseProduct_ok 39 1 (pc' := 77) (pl' := [some (.ref 0), some (.int (nI b)), some (.int ((nI i) + (nI 1))), some (.int (nI 47))]) (st' := []) (W1 := (dW rv3 ra rb (.ref 6) (vX tv ta tb (adZ z3) (adS st3 z3 (stX (nI 5) (nI 0))) bg))) (bs := []) rfl rfl rfl ?_
            simp only [q8]
            refine XG.goto eX3_parseProduct_77 (tgt := 7) (by decide) ?_
            refine XG.weak (pl' := [some (.ref 0), some (.int (nI b)), some (.int (nI (i + 1))), none]) ⟨rfl, rfl, rfl, trivial⟩ ?_
            exact ihi _ _ _ _ (hc8.tr (hc2.tr hc3)) (hE8.op hE3 (by decide)) (by rw [← hF, show 400 - i = (400 - (i + 1)) + 1 by omega]; exact (lp_step (op := opP) hkq rfl).symm)
          · exfalso
            have h62 := Decidable.not_not.mp h62
            have g62 : 47 = 42 := (nI_eq (a := 47) (b := 42) (by omega) (by omega)).mp h62
            omega
set_option maxHeartbeats 1000000 in
theorem cc_sum (K : TKS) (sub : Option (Nat → PE ⊕ (Nat × Cde))) (b d : Nat) (hb : b ≤ 6) (hd : 3 ≤ d) (hU : cEx K mX3_parseProduct (prS K sub) b (d - 1)) : cEx K mX3_parseSum (smS K sub) b d := by
  intro rv ra rb tv ta tb bg hT r hP a z st hz hz2
  refine Con.of (by decide) (Nat.le_of_ble_eq_true rfl) ?_
  refine XG.blk tX3_parseSum_ok 0 2 (pc' := 2) (pl' := [some (.ref 0), some (.int (nI b)), none, none]) (st' := [(.int (nI b)), (.ref 0)]) (W1 := (dW rv ra rb (.ref 6) (vX tv ta tb z st bg))) (bs := []) rfl rfl rfl ?_
  refine XG.callV0 eX3_parseSum_2 kl_X3_233 (hU rv ra rb tv ta tb bg hT r hP a z st hz hz2) (px_fitS (by omega)) rfl rfl rfl (Nat.le_of_ble_eq_true rfl) (fun r9 W9 hp9 hl9 => ?_)
  obtain ⟨rv1, z1, st1, rfl, hc1, hE1, rfl⟩ := hp9
  show XG _ _ _ _ _ _ [] (dW rv1 ra rb (.ref 6) (vX tv ta tb z1 st1 bg))
  refine XG.blk tX3_parseSum_ok 3 2 (pc' := 7) (pl' := [some (.ref 0), some (.int (nI b)), some (.int (nI 0)), none]) (st' := []) (W1 := (dW rv1 ra rb (.ref 6) (vX tv ta tb z1 st1 bg))) (bs := []) rfl rfl rfl ?_
  refine px_for 400 (fun i => ∀ (rv8 : Nat → Int32) (z8 : Nat) (st8 : Nat → Int32) (R : PE ⊕ (PT × Cde)) (hc8 : chg [1, 8, 9] rv rv8) (hE8 : EQc K a z st R rv8 z8 st8) (hF : bd R (lpL K (prS K sub) opM (400 - i)) = bd r (lfE (smS K sub))), XG mX3_parseSum _ 0 0 7 [some (.ref 0), some (.int (nI b)), some (.int (nI i)), none] [] (dW rv8 ra rb (.ref 6) (vX tv ta tb z8 st8 bg))) ?_ ?_ 0 (Nat.zero_le _) rv1 z1 st1 (bd r (lfE (prS K sub))) hc1 hE1 (lf_lp (fun _ => rfl) r)
  · intro rv8 z8 st8 R hc8 hE8 hF
    refine XG.blk tX3_parseSum_ok 5 2 (pc' := 11) (pl' := [some (.ref 0), some (.int (nI b)), some (.int (nI 400)), none]) (st' := [(.int (nI 400)), (.int (nI 400))]) (W1 := (dW rv8 ra rb (.ref 6) (vX tv ta tb z8 st8 bg))) (bs := []) rfl rfl rfl ?_
    refine XG.br eX3_parseSum_11 (P := (nI 400) ≤ (nI 400)) (r := []) rfl (tgt := 80) (by decide) (fun h11 => ?_) (fun h11 => ?_)
    · skip
      have g11 : 400 ≤ 400 := (nI_leI (a := 400) (b := 400) (by omega) (by omega)).mp h11
      refine XS.vret eX3_parseSum_80 rfl ?_
      refine ⟨_, _, _, rfl, hc8, ?_, rfl⟩
      rw [← hF, Nat.sub_self, lpL_0]; exact hE8
    · exfalso
      have g11 : ¬ 400 ≤ 400 := (fun z_9 => h11 ((nI_leI (a := 400) (b := 400) (by omega) (by omega)).mpr z_9))
      omega
  · intro i hi ihi rv8 z8 st8 R hc8 hE8 hF
    refine XG.blk tX3_parseSum_ok 5 2 (pc' := 11) (pl' := [some (.ref 0), some (.int (nI b)), some (.int (nI i)), none]) (st' := [(.int (nI 400)), (.int (nI i))]) (W1 := (dW rv8 ra rb (.ref 6) (vX tv ta tb z8 st8 bg))) (bs := []) rfl rfl rfl ?_
    refine XG.br eX3_parseSum_11 (P := (nI 400) ≤ (nI i)) (r := []) rfl (tgt := 80) (by decide) (fun h11 => ?_) (fun h11 => ?_)
    · exfalso
      have g11 : 400 ≤ i := (nI_leI (a := 400) (b := i) (by omega) (by omega)).mp h11
      omega
    · skip
      have g11 : ¬ 400 ≤ i := (fun z_9 => h11 ((nI_leI (a := 400) (b := i) (by omega) (by omega)).mpr z_9))
      refine XG.blk tX3_parseSum_ok 8 2 (pc' := 17) (pl' := [some (.ref 0), some (.int (nI b)), some (.int (nI i)), none]) (st' := [(.int (nI 43)), (.ref 0)]) (W1 := (dW rv8 ra rb (.ref 6) (vX tv ta tb z8 st8 bg))) (bs := []) rfl rfl rfl ?_
      refine XG.callV0 eX3_parseSum_17 kl_X3_218 (cc_sees (d - 1) rv8 ra rb (.ref 6) (vX tv ta tb z8 st8 bg) K hT (prj R) hE8.2.2.1 8 (by unfold vk; omega)) (px_fitS (by omega)) rfl rfl rfl (Nat.le_of_ble_eq_true rfl) (fun r9 W9 hp9 hl9 => ?_)
      obtain ⟨rfl, rfl⟩ := hp9
      refine XG.br eX3_parseSum_20 (P := ¬ (seeB K (prj R) 8) = 0) (r := []) rfl (tgt := 32) (by decide) (fun h20 => ?_) (fun h20 => ?_)
      · skip
        obtain ⟨q, rfl, hkq⟩ := see_q h20
        have hPq : PVc K (.inr q.1) rv8 := hE8.2.2.1
        have hq4 := hPq.1
        have hkk : ((ra 4) q.1.1) = nI 43 := by rw [(hT q.1.1 hPq.1 hPq.2.2.2.1).1, hkq]; rfl
        have q1 : (rv8 8) = (nI q.1.1) := hPq.2.1
        have q2 : (nI q.1.1).toNatClampNeg = q.1.1 := nI_clamp (by omega)
        have q3 : ((ra 4) q.1.1) = (nI 43) := hkk
        refine XG.blk tX3_parseSum_ok 16 8 (pc' := 44) (pl' := [some (.ref 0), some (.int (nI b)), some (.int (nI i)), some (.int ((ra 4) (rv8 8).toNatClampNeg))]) (st' := [(.int ((ra 4) (rv8 8).toNatClampNeg)), (.ref 0)]) (W1 := (dW rv8 ra rb (.ref 6) (vX tv ta tb z8 st8 bg))) (bs := [px_vb (rv8 8) 402]) rfl rfl (by (try simp only [q1, q2, q3]); exact (px_all (px_vbN (by omega) (by decide)) rfl)) ?_
        simp only [q1, q2, q3]
        refine XG.callV0 eX3_parseSum_44 kl_X3_130 (cc_take (d - 1) rv8 ra rb (.ref 6) (vX tv ta tb z8 st8 bg) K hT (.inr q.1) hPq 8 (by unfold vk; omega) (by decide)) (px_fitS (by omega)) rfl rfl rfl (Nat.le_of_ble_eq_true rfl) (fun r9 W9 hp9 hl9 => ?_)
        obtain ⟨rv2, rfl, hc2, hP2, rfl⟩ := hp9
        show XG _ _ _ _ _ _ [] (dW rv2 ra rb (.ref 6) (vX tv ta tb z8 st8 bg))
        refine XG.blk tX3_parseSum_ok 25 2 (pc' := 49) (pl' := [some (.ref 0), some (.int (nI b)), some (.int (nI i)), some (.int (nI 43))]) (st' := [(.int (nI b)), (.ref 0)]) (W1 := (dW rv2 ra rb (.ref 6) (vX tv ta tb z8 st8 bg))) (bs := []) rfl rfl rfl ?_
        refine XG.callV0 eX3_parseSum_49 kl_X3_233 (hU rv2 ra rb tv ta tb bg hT (bd (.inr q.1) (mstS K 8)) hP2 (a + 1) z8 st8 hE8.2.1 (fun s1 h1 => by rw [bd_mst hkq] at h1; rw [adv_s h1]; have := (hE8.2.2.2 q rfl).2.2.2; show z8 + (a + 1) ≤ q.1.1 + 1 + 2; omega)) (px_fitS (by omega)) rfl rfl rfl (Nat.le_of_ble_eq_true rfl) (fun r9 W9 hp9 hl9 => ?_)
        obtain ⟨rv3, z3, st3, rfl, hc3, hE3, rfl⟩ := hp9
        show XG _ _ _ _ _ _ [] (dW rv3 ra rb (.ref 6) (vX tv ta tb z3 st3 bg))
        refine XG.blk tX3_parseSum_ok 28 5 (pc' := 62) (pl' := [some (.ref 0), some (.int (nI b)), some (.int (nI i)), some (.int (nI 43))]) (st' := [(.int (nI 43)), (.int (nI 43)), (.ref 17)]) (W1 := (dW rv3 ra rb (.ref 6) (vX tv ta tb z3 st3 bg))) (bs := []) rfl rfl rfl ?_
        refine XG.br eX3_parseSum_62 (P := ¬ (nI 43) = (nI 43)) (r := [(.ref 17)]) rfl (tgt := 69) (by decide) (fun h62 => ?_) (fun h62 => ?_)
        · exfalso
          have g62 : ¬ 43 = 43 := (fun z_9 => h62 ((nI_eq (a := 43) (b := 43) (by omega) (by omega)).mpr z_9))
          omega
        · skip
          have h62 := Decidable.not_not.mp h62
          have g62 : 43 = 43 := (nI_eq (a := 43) (b := 43) (by omega) (by omega)).mp h62
          refine XG.blk tX3_parseSum_ok 34 1 (pc' := 66) (pl' := [some (.ref 0), some (.int (nI b)), some (.int (nI i)), some (.int (nI 43))]) (st' := [(.int (nI 2)), (.ref 17)]) (W1 := (dW rv3 ra rb (.ref 6) (vX tv ta tb z3 st3 bg))) (bs := []) rfl rfl rfl ?_
          refine XG.goto eX3_parseSum_66 (tgt := 70) (by decide) ?_
          refine XG.blk tX3_parseSum_ok 37 1 (pc' := 71) (pl' := [some (.ref 0), some (.int (nI b)), some (.int (nI i)), some (.int (nI 43))]) (st' := [(.int (nI 0)), (.int (nI 2)), (.ref 17)]) (W1 := (dW rv3 ra rb (.ref 6) (vX tv ta tb z3 st3 bg))) (bs := []) rfl rfl rfl ?_
          refine XG.callV (ro := [17, 18, 19, 20]) (W1 := (gW (nI z3) st3 bg (ta 22))) eX3_parseSum_71 kl_X3_227 (cc_lawAdd (d - 1) z3 st3 bg (ta 22) hE3.2.1 (nI 2) (nI 0)) (px_fitS (by omega)) rfl ⟨rfl, by decide, by decide⟩ rfl rfl (Nat.le_of_ble_eq_true rfl) (fun r9 W9 hp9 hl9 => ?_)
          obtain ⟨rfl, rfl⟩ := hp9
          rw [pt_vg]
          show XG _ _ _ _ _ _ [] (dW rv3 ra rb (.ref 6) (vX tv ta tb (adZ z3) (adS st3 z3 (stX (nI 2) (nI 0))) bg))
          have q4 : ((nI i) + (nI 1)) = (nI (i + 1)) := px_eadd rfl rfl
          refine XG.blk tX3_parseSum_ok 39 1 (pc' := 77) (pl' := [some (.ref 0), some (.int (nI b)), some (.int ((nI i) + (nI 1))), some (.int (nI 43))]) (st' := []) (W1 := (dW rv3 ra rb (.ref 6) (vX tv ta tb (adZ z3) (adS st3 z3 (stX (nI 2) (nI 0))) bg))) (bs := []) rfl rfl rfl ?_
          simp only [q4]
          refine XG.goto eX3_parseSum_77 (tgt := 7) (by decide) ?_
          refine XG.weak (pl' := [some (.ref 0), some (.int (nI b)), some (.int (nI (i + 1))), none]) ⟨rfl, rfl, rfl, trivial⟩ ?_
          exact ihi _ _ _ _ (hc8.tr (hc2.tr hc3)) (hE8.op hE3 (by decide)) (by rw [← hF, show 400 - i = (400 - (i + 1)) + 1 by omega]; exact (lp_step (op := opM) hkq rfl).symm)
      · skip
        have h20 := Decidable.not_not.mp h20
        refine XG.blk tX3_parseSum_ok 12 2 (pc' := 26) (pl' := [some (.ref 0), some (.int (nI b)), some (.int (nI i)), none]) (st' := [(.int (nI 45)), (.ref 0)]) (W1 := (dW rv8 ra rb (.ref 6) (vX tv ta tb z8 st8 bg))) (bs := []) rfl rfl rfl ?_
        refine XG.callV0 eX3_parseSum_26 kl_X3_218 (cc_sees (d - 1) rv8 ra rb (.ref 6) (vX tv ta tb z8 st8 bg) K hT (prj R) hE8.2.2.1 9 (by unfold vk; omega)) (px_fitS (by omega)) rfl rfl rfl (Nat.le_of_ble_eq_true rfl) (fun r9 W9 hp9 hl9 => ?_)
        obtain ⟨rfl, rfl⟩ := hp9
        refine XG.br eX3_parseSum_29 (P := (seeB K (prj R) 9) = 0) (r := []) rfl (tgt := 80) (by decide) (fun h29 => ?_) (fun h29 => ?_)
        · skip
          refine XS.vret eX3_parseSum_80 rfl ?_
          refine ⟨_, _, _, rfl, hc8, ?_, rfl⟩
          rw [← hF, lp_stop (fun q e => opM_no (see_z h20 q e) (see_z h29 q e))]; exact hE8
        · skip
          obtain ⟨q, rfl, hkq⟩ := see_q h29
          have hPq : PVc K (.inr q.1) rv8 := hE8.2.2.1
          have hq4 := hPq.1
          have hkk : ((ra 4) q.1.1) = nI 45 := by rw [(hT q.1.1 hPq.1 hPq.2.2.2.1).1, hkq]; rfl
          have q5 : (rv8 8) = (nI q.1.1) := hPq.2.1
          have q6 : (nI q.1.1).toNatClampNeg = q.1.1 := nI_clamp (by omega)
          have q7 : ((ra 4) q.1.1) = (nI 45) := hkk
          refine XG.blk tX3_parseSum_ok 16 8 (pc' := 44) (pl' := [some (.ref 0), some (.int (nI b)), some (.int (nI i)), some (.int ((ra 4) (rv8 8).toNatClampNeg))]) (st' := [(.int ((ra 4) (rv8 8).toNatClampNeg)), (.ref 0)]) (W1 := (dW rv8 ra rb (.ref 6) (vX tv ta tb z8 st8 bg))) (bs := [px_vb (rv8 8) 402]) rfl rfl (by (try simp only [q5, q6, q7]); exact (px_all (px_vbN (by omega) (by decide)) rfl)) ?_
          simp only [q5, q6, q7]
          refine XG.callV0 eX3_parseSum_44 kl_X3_130 (cc_take (d - 1) rv8 ra rb (.ref 6) (vX tv ta tb z8 st8 bg) K hT (.inr q.1) hPq 9 (by unfold vk; omega) (by decide)) (px_fitS (by omega)) rfl rfl rfl (Nat.le_of_ble_eq_true rfl) (fun r9 W9 hp9 hl9 => ?_)
          obtain ⟨rv2, rfl, hc2, hP2, rfl⟩ := hp9
          show XG _ _ _ _ _ _ [] (dW rv2 ra rb (.ref 6) (vX tv ta tb z8 st8 bg))
          refine XG.blk tX3_parseSum_ok 25 2 (pc' := 49) (pl' := [some (.ref 0), some (.int (nI b)), some (.int (nI i)), some (.int (nI 45))]) (st' := [(.int (nI b)), (.ref 0)]) (W1 := (dW rv2 ra rb (.ref 6) (vX tv ta tb z8 st8 bg))) (bs := []) rfl rfl rfl ?_
          refine XG.callV0 eX3_parseSum_49 kl_X3_233 (hU rv2 ra rb tv ta tb bg hT (bd (.inr q.1) (mstS K 9)) hP2 (a + 1) z8 st8 hE8.2.1 (fun s1 h1 => by rw [bd_mst hkq] at h1; rw [adv_s h1]; have := (hE8.2.2.2 q rfl).2.2.2; show z8 + (a + 1) ≤ q.1.1 + 1 + 2; omega)) (px_fitS (by omega)) rfl rfl rfl (Nat.le_of_ble_eq_true rfl) (fun r9 W9 hp9 hl9 => ?_)
          obtain ⟨rv3, z3, st3, rfl, hc3, hE3, rfl⟩ := hp9
          show XG _ _ _ _ _ _ [] (dW rv3 ra rb (.ref 6) (vX tv ta tb z3 st3 bg))
          refine XG.blk tX3_parseSum_ok 28 5 (pc' := 62) (pl' := [some (.ref 0), some (.int (nI b)), some (.int (nI i)), some (.int (nI 45))]) (st' := [(.int (nI 43)), (.int (nI 45)), (.ref 17)]) (W1 := (dW rv3 ra rb (.ref 6) (vX tv ta tb z3 st3 bg))) (bs := []) rfl rfl rfl ?_
          refine XG.br eX3_parseSum_62 (P := ¬ (nI 45) = (nI 43)) (r := [(.ref 17)]) rfl (tgt := 69) (by decide) (fun h62 => ?_) (fun h62 => ?_)
          · skip
            have g62 : ¬ 45 = 43 := (fun z_9 => h62 ((nI_eq (a := 45) (b := 43) (by omega) (by omega)).mpr z_9))
            refine XG.blk tX3_parseSum_ok 36 2 (pc' := 71) (pl' := [some (.ref 0), some (.int (nI b)), some (.int (nI i)), some (.int (nI 45))]) (st' := [(.int (nI 0)), (.int (nI 3)), (.ref 17)]) (W1 := (dW rv3 ra rb (.ref 6) (vX tv ta tb z3 st3 bg))) (bs := []) rfl rfl rfl ?_
            refine XG.callV (ro := [17, 18, 19, 20]) (W1 := (gW (nI z3) st3 bg (ta 22))) eX3_parseSum_71 kl_X3_227 (cc_lawAdd (d - 1) z3 st3 bg (ta 22) hE3.2.1 (nI 3) (nI 0)) (px_fitS (by omega)) rfl ⟨rfl, by decide, by decide⟩ rfl rfl (Nat.le_of_ble_eq_true rfl) (fun r9 W9 hp9 hl9 => ?_)
            obtain ⟨rfl, rfl⟩ := hp9
            rw [pt_vg]
            show XG _ _ _ _ _ _ [] (dW rv3 ra rb (.ref 6) (vX tv ta tb (adZ z3) (adS st3 z3 (stX (nI 3) (nI 0))) bg))
            have q8 : ((nI i) + (nI 1)) = (nI (i + 1)) := px_eadd rfl rfl
            refine XG.blk tX3_parseSum_ok 39 1 (pc' := 77) (pl' := [some (.ref 0), some (.int (nI b)), some (.int ((nI i) + (nI 1))), some (.int (nI 45))]) (st' := []) (W1 := (dW rv3 ra rb (.ref 6) (vX tv ta tb (adZ z3) (adS st3 z3 (stX (nI 3) (nI 0))) bg))) (bs := []) rfl rfl rfl ?_
            simp only [q8]
            refine XG.goto eX3_parseSum_77 (tgt := 7) (by decide) ?_
            refine XG.weak (pl' := [some (.ref 0), some (.int (nI b)), some (.int (nI (i + 1))), none]) ⟨rfl, rfl, rfl, trivial⟩ ?_
            exact ihi _ _ _ _ (hc8.tr (hc2.tr hc3)) (hE8.op hE3 (by decide)) (by rw [← hF, show 400 - i = (400 - (i + 1)) + 1 by omega]; exact (lp_step (op := opM) hkq rfl).symm)
          · exfalso
            have h62 := Decidable.not_not.mp h62
            have g62 : 45 = 43 := (nI_eq (a := 45) (b := 43) (by omega) (by omega)).mp h62
            omega
theorem cc_ex (K : TKS) : ∀ n d, n ≤ 6 → 3 + 3 * n ≤ d → cEx K mX3_parseSum (exS K n) (6 - n) d := by
  intro n
  induction n with
  | zero =>
    intro d _ hd
    rw [exS_sm]
    exact cc_sum K _ _ d (by omega) (by omega) (cc_product K _ _ (d - 1) (by omega) (by omega) (cc_unit K _ _ (d - 1 - 1) (by omega) (by omega) (fun _ => rfl) (fun f h => by cases h)))
  | succ n ih =>
    intro d hn hd
    rw [exS_sm]
    refine cc_sum K _ _ d (by omega) (by omega) (cc_product K _ _ (d - 1) (by omega) (by omega) (cc_unit K _ _ (d - 1 - 1) (by omega) (by omega) (fun h => by cases h) (fun f h => ⟨by omega, ?_⟩)))
    obtain rfl := Option.some.inj h
    have := ih (d - 1 - 1 - 1) (by omega) (by omega)
    rw [show 6 - (n + 1) + 1 = 6 - n by omega]
    exact this
